/-! the rest of a row's and the hopper's methods -/
theorem p_copyRow {N : Nat} {L : List (Nat × Nat)} {A M A2 M2 : Nat → Int32} {n t n2 t2 : Int32} (hr : rowR L A2 M2 n2 t2) (hn : L.length ≤ N) (hN : N < 2 ^ 30) : ∃ R, f_X5_copyFrom N N A M n t A2 M2 n2 t2 = some R ∧ rowR L R.1 R.2.1 R.2.2.1 R.2.2.2 := by
  obtain ⟨rfl, rfl, hk⟩ := hr
  have e : (if nI N < nI L.length then nI N else nI L.length) = nI L.length := if_neg (nI_nlt hn (by omega))
  have hg : ¬ (0 : Int32) < 0 ∧ ¬ (0 : Int32) < 0 ∧ ¬ nI L.length < 0 ∧ (0 : Int32).toNatClampNeg + (nI L.length).toNatClampNeg ≤ N ∧ (0 : Int32).toNatClampNeg + (nI L.length).toNatClampNeg ≤ N := by
    rw [nI_clamp (by omega)]
    exact ⟨by decide, by decide, nI_pos (by omega), by show 0 + _ ≤ _; omega, by show 0 + _ ≤ _; omega⟩
  refine ⟨(va_cpy A2 A 0 0 L.length, va_cpy M2 M 0 0 L.length, nI L.length, nI (tot L)), ?_, rfl, rfl, ?_⟩
  · rw [f_X5_copyFrom, e]
    simp only [lt_v, gd_t hg]
    simp only [nI_clamp (show L.length < 2 ^ 31 by omega)]
    rfl
  · intro k h
    show va_cpy A2 A 0 0 L.length k = _ ∧ va_cpy M2 M 0 0 L.length k = _
    rw [pk_cpy_in (Nat.zero_le _) (by omega), pk_cpy_in (Nat.zero_le _) (by omega), Nat.zero_add, Nat.sub_zero]
    exact hk k h
/-- how much of it satisfies b -/
def sumIf (b : Nat → Bool) : List (Nat × Nat) → Nat
  | [] => 0
  | p :: L => (if b p.2 then p.1 else 0) + sumIf b L
theorem sumIf_le (b : Nat → Bool) : ∀ L, sumIf b L ≤ tot L
  | [] => Nat.le_refl 0
  | p :: L => by
    have := sumIf_le b L
    simp only [sumIf, tot]
    split <;> omega
theorem p_mostly_L {N : Nat} {y1 : Int32} {b : Nat → Bool} {A M : Nat → Int32} {T : Nat} (hN : N < 2 ^ 30) (hT : T < 2 ^ 30) : ∀ (Lr : List (Nat × Nat)) (i h fuel : Nat), (∀ k : Nat, k < Lr.length → A (i + k) = nI (lk Lr k).1 ∧ M (i + k) = nI (lk Lr k).2) → i + Lr.length ≤ N → Lr.length < fuel → (∀ p ∈ Lr, (nI p.2 &&& y1 = 0 ↔ b p.2 = false)) → h + tot Lr ≤ T →
    f_X5_isMostly_L4 N A M (nI (i + Lr.length)) (nI T) y1 fuel (nI h) (nI i) = some (if T < 2 * (h + sumIf b Lr) then 1 else 0) := by
  intro Lr
  induction Lr with
  | nil =>
    intro i h fuel hA hi hf hb hh
    obtain ⟨fu, rfl⟩ : ∃ fu, fuel = fu + 1 := ⟨fuel - 1, by omega⟩
    simp only [tot, List.length_nil] at hh hi
    rw [f_X5_isMostly_L4, if_pos (show nI (i + ([] : List (Nat × Nat)).length) ≤ nI i from nI_le (Nat.le_refl _) (by omega)), pk_sub (by omega)]
    rw [show h + sumIf b [] = h from Nat.add_zero h]
    by_cases q : T < 2 * h
    · rw [if_neg (nI_ge (by omega) (by omega)), if_pos q]
    · rw [if_pos (nI_le (by omega) (by omega)), if_neg q]
  | cons p Lr ih =>
    intro i h fuel hA hi hf hb hh
    obtain ⟨fu, rfl⟩ : ∃ fu, fuel = fu + 1 := ⟨fuel - 1, by omega⟩
    simp only [List.length_cons] at hi hf ⊢
    simp only [tot] at hh
    have hgi := nI_in (c := i) (N := N) (by omega) (by omega)
    have hA0 := hA 0 (by simp)
    rw [Nat.add_zero, lk_0] at hA0
    have hA1 : ∀ k : Nat, k < Lr.length → A (i + 1 + k) = nI (lk Lr k).1 ∧ M (i + 1 + k) = nI (lk Lr k).2 := fun k hk => by
      have := hA (k + 1) (by simp only [List.length_cons]; omega)
      rw [lk_s, show i + (k + 1) = i + 1 + k by omega] at this
      exact this
    have hb1 := hb p List.mem_cons_self
    rw [f_X5_isMostly_L4, if_neg (nI_ge (by omega) (by omega))]
    simp only [gd_t hgi, lt_v]
    simp only [nI_clamp (show i < 2 ^ 31 by omega), hA0.1, hA0.2, f_X5_isMostly_J34, lt_v]
    rw [show i + (Lr.length + 1) = i + 1 + Lr.length by omega]
    by_cases q : b p.2 = false
    · rw [if_pos (hb1.mpr q)]
      have := ih (i + 1) h fu hA1 (by omega) (by omega) (fun x hx => hb x (List.mem_cons_of_mem _ hx)) (by omega)
      simp only [fa_L, nI_add, Nat.add_zero]
      rw [this]
      simp only [sumIf, q]
      simp
      rfl
    · rw [if_neg (fun z => q (hb1.mp z))]
      have := ih (i + 1) (h + p.1) fu hA1 (by omega) (by omega) (fun x hx => hb x (List.mem_cons_of_mem _ hx)) (by omega)
      simp only [fa_L, nI_add]
      rw [this]
      have q2 : b p.2 = true := by cases e : b p.2 <;> simp_all
      simp only [sumIf, q2, if_pos, Nat.add_assoc]
      rfl
theorem p_mostly {N : Nat} {y1 : Int32} {b : Nat → Bool} {L : List (Nat × Nat)} {A M : Nat → Int32} {n t : Int32} (hN : N < 20000) (hn : L.length ≤ N) (ht : tot L < 2 ^ 30) (hr : rowR L A M n t) (hb : ∀ p ∈ L, (nI p.2 &&& y1 = 0 ↔ b p.2 = false)) : f_X5_isMostly N y1 A M n t = some (if tot L < 2 * sumIf b L then 1 else 0) := by
  obtain ⟨rfl, rfl, hk⟩ := hr
  have := p_mostly_L (N := N) (y1 := y1) (b := b) (A := A) (M := M) (T := tot L) (by omega) ht L 0 0 FU (fun k h => by rw [Nat.zero_add]; exact hk k h) (by omega) (by show _ < 20000; omega) hb (by omega)
  rw [f_X5_isMostly, ← nI_0]
  rw [Nat.zero_add, Nat.zero_add] at this
  exact this
/-- the amount up to the latest one that is not m -/
def upTo (m : Nat) : List (Nat × Nat) → Nat → Nat → Nat
  | [], _, u => u
  | p :: L, s, u => upTo m L (s + p.1) (if p.2 = m then u else s + p.1)
theorem p_upTo_L {N m : Nat} {A M : Nat → Int32} (hN : N < 2 ^ 30) (hm : m < 2 ^ 31) : ∀ (Lr : List (Nat × Nat)) (i s u fuel : Nat), okR Lr → (∀ k : Nat, k < Lr.length → A (i + k) = nI (lk Lr k).1 ∧ M (i + k) = nI (lk Lr k).2) → i + Lr.length ≤ N → Lr.length < fuel →
    f_X5_amountUpToLastUnlike_L7 N A M (nI (i + Lr.length)) (nI m) fuel (nI s) (nI u) (nI i) = some (nI (upTo m Lr s u)) := by
  intro Lr
  induction Lr with
  | nil =>
    intro i s u fuel hok hA hi hf
    obtain ⟨fu, rfl⟩ : ∃ fu, fuel = fu + 1 := ⟨fuel - 1, by omega⟩
    simp only [List.length_nil] at hi
    rw [f_X5_amountUpToLastUnlike_L7, if_pos (show nI (i + ([] : List (Nat × Nat)).length) ≤ nI i from nI_le (Nat.le_refl _) (by omega))]
    rfl
  | cons p Lr ih =>
    intro i s u fuel hok hA hi hf
    obtain ⟨fu, rfl⟩ : ∃ fu, fuel = fu + 1 := ⟨fuel - 1, by omega⟩
    obtain ⟨hp, hok2⟩ := okR_c hok
    simp only [List.length_cons] at hi hf ⊢
    have hgi := nI_in (c := i) (N := N) (by omega) (by omega)
    have hA0 := hA 0 (by simp)
    rw [Nat.add_zero, lk_0] at hA0
    have hA1 : ∀ k : Nat, k < Lr.length → A (i + 1 + k) = nI (lk Lr k).1 ∧ M (i + 1 + k) = nI (lk Lr k).2 := fun k hk => by
      have := hA (k + 1) (by simp only [List.length_cons]; omega)
      rw [lk_s, show i + (k + 1) = i + 1 + k by omega] at this
      exact this
    rw [f_X5_amountUpToLastUnlike_L7, if_neg (nI_ge (by omega) (by omega))]
    simp only [gd_t hgi, lt_v]
    simp only [nI_clamp (show i < 2 ^ 31 by omega), hA0.1, hA0.2, f_X5_amountUpToLastUnlike_J39, lt_v]
    rw [show i + (Lr.length + 1) = i + 1 + Lr.length by omega, upTo]
    by_cases q : p.2 = m
    · rw [if_pos (congrArg nI q), if_pos q]
      simp only [fa_L, nI_add]
      exact ih (i + 1) (s + p.1) u fu hok2 hA1 (by omega) (by omega)
    · rw [if_neg (fun z => q ((nI_eq (by omega) hm).mp z)), if_neg q]
      simp only [fa_L, nI_add]
      exact ih (i + 1) (s + p.1) (s + p.1) fu hok2 hA1 (by omega) (by omega)
theorem p_upTo {N m : Nat} {L : List (Nat × Nat)} {A M : Nat → Int32} {n t : Int32} (hN : N < 20000) (hm : m < 2 ^ 31) (hn : L.length ≤ N) (hok : okR L) (hr : rowR L A M n t) : f_X5_amountUpToLastUnlike N (nI m) A M n = some (nI (upTo m L 0 0)) := by
  obtain ⟨rfl, rfl, hk⟩ := hr
  have := p_upTo_L (N := N) (m := m) (A := A) (M := M) (by omega) hm L 0 0 0 FU hok (fun k h => by rw [Nat.zero_add]; exact hk k h) (by omega) (by show _ < 20000; omega)
  rw [f_X5_amountUpToLastUnlike, ← nI_0]
  rw [Nat.zero_add] at this
  exact this
/-! hopper -/
def ends (k : Nat) (L : List (Nat × Nat)) : Bool := match L.getLast? with
  | some p => p.2 == k
  | none => false
theorem ends_nil (k : Nat) : ends k [] = false := rfl
theorem ends_app (k : Nat) (L : List (Nat × Nat)) (p : Nat × Nat) : ends k (L ++ [p]) = (p.2 == k) := by
  unfold ends
  rw [List.getLast?_append]
  rfl
theorem snoc_of {α : Type} (L : List α) (h : L ≠ []) : ∃ K x, L = K ++ [x] := ⟨L.dropLast, L.getLast h, (List.dropLast_concat_getLast h).symm⟩
theorem p_ends {N k : Nat} {L : List (Nat × Nat)} {A M : Nat → Int32} {n t : Int32} (hr : rowR L A M n t) (hn : L.length ≤ N) (hN : N < 2 ^ 30) (hok : okR L) (hk : k < 2) : f_X3_endsWith N (nI k) M n = some (if ends k L then 1 else 0) := by
  rcases Classical.em (L = []) with rfl | h
  · obtain ⟨rfl, rfl, -⟩ := hr
    rw [f_X3_endsWith, if_pos (by show nI 0 ≤ 0; rw [nI_0]; exact Int32.le_refl 0), ends_nil]
    rfl
  · obtain ⟨K, x, rfl⟩ := snoc_of L h
    have hlen : (K ++ [x]).length = K.length + 1 := by rw [List.length_append]; rfl
    have hx := hok x (List.mem_append_right _ (List.mem_singleton.mpr rfl))
    have hm := p_markAt (N := N) (k := K.length) hr hn hN (by omega)
    have hl := lk_r (L := K) (K := [x]) (k := 0)
    rw [Nat.add_zero, lk_0] at hl
    rw [hl] at hm
    rw [f_X3_endsWith, hr.1, hlen, if_neg (nI_nle (by omega) (by omega)), fa_L, pk_sub (by omega), Nat.add_sub_cancel, ← hlen, ← hr.1, hm, ends_app]
    simp only [Option.bind_some]
    by_cases q : x.2 = k
    · rw [if_pos (congrArg nI q)]
      simp [q]
    · rw [if_neg (fun z => q ((nI_eq (by omega) (by omega)).mp z))]
      simp [q]
/-- a lot poured in -/
def pour (k a : Nat) (L : List (Nat × Nat)) : List (Nat × Nat) := if ends k L then L.dropLast ++ [((L.getLastD (0, 0)).1 + a, k)] else L ++ [(a, k)]
theorem p_pour {N k a : Nat} {L : List (Nat × Nat)} {A M : Nat → Int32} {n t : Int32} (hr : rowR L A M n t) (hn : L.length ≤ N) (hn2 : ends k L = false → L.length < N) (hN : N < 2 ^ 30) (hok : okR L) (hk : k < 2) : ∃ R, f_X3_pourIn N (nI k) (nI a) A M n t = some R ∧ rowR (pour k a L) R.1 R.2.1 R.2.2.1 R.2.2.2 := by
  rw [f_X3_pourIn, p_ends hr hn hN hok hk]
  unfold pour
  simp only [Option.bind_some]
  cases q : ends k L with
  | false =>
    obtain ⟨A', M', h1, h2⟩ := p_append (a := a) (mk := k) hr (hn2 q) hN
    refine ⟨(A', M', nI (L.length + 1), nI (tot L + a)), ?_, h2⟩
    rw [if_pos (show (if false = true then (1 : Int32) else 0) = 0 from rfl), h1]
    rfl
  | true =>
    rcases Classical.em (L = []) with rfl | h
    · rw [ends_nil] at q; cases q
    · obtain ⟨K, x, rfl⟩ := snoc_of L h
      have hlen : (K ++ [x]).length = K.length + 1 := by rw [List.length_append]; rfl
      rw [ends_app] at q
      have qx : x.2 = k := by simpa using q
      obtain ⟨A', h1, h2⟩ := p_addToLast (N := N) (a := a) (b := x.1) (mk := x.2) (L := K) hr (by omega) hN
      refine ⟨(A', M, n, nI (tot (K ++ [(x.1 + a, x.2)]))), ?_, ?_⟩
      · rw [if_pos rfl, if_neg (by decide), h1]
        rfl
      · rw [if_pos rfl, List.dropLast_concat, List.getLastD_concat, ← qx]
        exact h2
theorem pour_tot {k a : Nat} {L : List (Nat × Nat)} : tot (pour k a L) = tot L + a := by
  unfold pour
  split
  · rename_i q
    rcases Classical.em (L = []) with rfl | h
    · rw [ends_nil] at q; cases q
    · obtain ⟨K, x, rfl⟩ := snoc_of L h
      rw [List.dropLast_concat, List.getLastD_concat, tot_app, tot_app]
      simp only [tot]
      omega
  · rw [tot_app]; rfl
theorem p_letHop {N N2 l b gap : Nat} {L L2 : List (Nat × Nat)} {A M A2 M2 : Nat → Int32} {n t n2 t2 : Int32} (hN : N < 20000) (hN2 : N2 < 2 ^ 30) (hok : okR L) (hk : ∀ p ∈ L, p.2 < 2) (hb : b < 2) (hgap : gap < 2 ^ 20) (hr : rowR L A M n t) (hr2 : rowR L2 A2 M2 n2 t2) (hl : l ≤ tot L) (ht : tot L < 2 ^ 30) (hn : L.length ≤ N) (hn2 : L2.length + L.length ≤ N2) :
    ∃ R, f_X3_letOut N N2 (nI l) (nI b) (nI gap) A M n t A2 M2 n2 t2 = some R ∧ rowR (tk l L).2 R.1 R.2.1 R.2.2.1 R.2.2.2.1 ∧ rowR (L2 ++ mk2 (fun m => 4 * gap + 2 * b + m) (tk l L).1) R.2.2.2.2.1 R.2.2.2.2.2.1 R.2.2.2.2.2.2.1 R.2.2.2.2.2.2.2 := by
  obtain ⟨R, h1, h2, h3⟩ := p_letOut (y2 := nI (4 * gap + 2 * b)) (g := fun m => 4 * gap + 2 * b + m) hN hN2 hok hr hr2 hl ht hn (by have := (tk_len L l).1; omega) (fun p hp => by
    have h := hk p hp
    have e : (2 : Nat) ^ 1 * (2 * gap + b) = 4 * gap + 2 * b := by omega
    rw [fa_or, Nat.or_comm, ← fa_or, ← e]
    exact fa_or_sum (k := 1) _ (by omega))
  refine ⟨R, ?_, h2, h3⟩
  have := p_mark (k := 0) (b := b) (g := gap) (by decide) hb hgap
  rw [nI_0, Nat.add_zero] at this
  rw [f_X3_letOut, this]
  simp only [Option.bind_some]
  rw [h1]
  rfl
