/-! rows of amounts with marks, as lists -/
def tot : List (Nat × Nat) → Nat
  | [] => 0
  | p :: L => p.1 + tot L
def lk (L : List (Nat × Nat)) (k : Nat) : Nat × Nat := L.getD k (0, 0)
theorem lk_0 (p : Nat × Nat) (L : List (Nat × Nat)) : lk (p :: L) 0 = p := rfl
theorem lk_s (p : Nat × Nat) (L : List (Nat × Nat)) (k : Nat) : lk (p :: L) (k + 1) = lk L k := rfl
theorem lk_l {L K : List (Nat × Nat)} {k : Nat} (h : k < L.length) : lk (L ++ K) k = lk L k := by
  unfold lk
  rw [List.getD_eq_getElem?_getD, List.getD_eq_getElem?_getD, List.getElem?_append_left h]
theorem lk_r {L K : List (Nat × Nat)} {k : Nat} : lk (L ++ K) (L.length + k) = lk K k := by
  unfold lk
  rw [List.getD_eq_getElem?_getD, List.getD_eq_getElem?_getD, List.getElem?_append_right (by omega)]
  congr 2
  omega
theorem lk_m {L : List (Nat × Nat)} {k : Nat} (h : k < L.length) : lk L k ∈ L := by
  unfold lk
  rw [List.getD_eq_getElem?_getD, List.getElem?_eq_getElem h]
  exact List.getElem_mem h
theorem tot_app (L K : List (Nat × Nat)) : tot (L ++ K) = tot L + tot K := by
  induction L with
  | nil => simp [tot]
  | cons p L ih => simp only [List.cons_append, tot, ih]; omega
/-- what an object of a row holds -/
def rowR (L : List (Nat × Nat)) (A M : Nat → Int32) (n t : Int32) : Prop := n = nI L.length ∧ t = nI (tot L) ∧ ∀ k : Nat, k < L.length → A k = nI (lk L k).1 ∧ M k = nI (lk L k).2
theorem rowR_nil (A M : Nat → Int32) : rowR [] A M 0 0 := ⟨rfl, rfl, fun k h => absurd h (Nat.not_lt_zero k)⟩
/-- amounts of 1 at least, all small -/
def okR (L : List (Nat × Nat)) : Prop := ∀ p ∈ L, 1 ≤ p.1 ∧ p.1 ≤ 4000 ∧ p.2 < 4096
theorem okR_c {p : Nat × Nat} {L : List (Nat × Nat)} (h : okR (p :: L)) : (1 ≤ p.1 ∧ p.1 ≤ 4000 ∧ p.2 < 4096) ∧ okR L := ⟨h p List.mem_cons_self, fun q hq => h q (List.mem_cons_of_mem _ hq)⟩
theorem okR_cc {p : Nat × Nat} {L : List (Nat × Nat)} (h : 1 ≤ p.1 ∧ p.1 ≤ 4000 ∧ p.2 < 4096) (h2 : okR L) : okR (p :: L) := fun q hq => by
  rcases List.mem_cons.mp hq with rfl | hq
  · exact h
  · exact h2 q hq
theorem okR_app {L K : List (Nat × Nat)} (h : okR L) (h2 : okR K) : okR (L ++ K) := fun q hq => by
  rcases List.mem_append.mp hq with hq | hq
  · exact h q hq
  · exact h2 q hq
theorem len_tot {L : List (Nat × Nat)} (h : okR L) : L.length ≤ tot L := by
  induction L with
  | nil => exact Nat.le_refl 0
  | cons p L ih =>
    have h2 := ih (okR_c h).2
    have h1 := (okR_c h).1.1
    simp only [List.length_cons, tot]
    omega
theorem p_append {N a mk : Nat} {L : List (Nat × Nat)} {A M : Nat → Int32} {n t : Int32} (h : rowR L A M n t) (hN : L.length < N) (hN2 : N < 2 ^ 30) : ∃ A' M' : Nat → Int32, f_X5_append N (nI a) (nI mk) A M n t = some (A', M', nI (L.length + 1), nI (tot L + a)) ∧ rowR (L ++ [(a, mk)]) A' M' (nI (L.length + 1)) (nI (tot L + a)) := by
  obtain ⟨rfl, rfl, hk⟩ := h
  have hg := nI_in (c := L.length) (N := N) hN (by omega)
  refine ⟨upd A L.length (nI a), upd M L.length (nI mk), ?_, ?_, ?_, ?_⟩
  · rw [f_X5_append, if_neg (nI_ge hN (by omega))]
    simp only [gd_t hg, lt_v]
    simp only [nI_clamp (show L.length < 2 ^ 31 by omega), fa_L, nI_add]
  · rw [List.length_append]; rfl
  · rw [tot_app]; rfl
  · intro k hk2
    rw [List.length_append, List.length_singleton] at hk2
    by_cases e : k = L.length
    · subst e
      have := lk_r (L := L) (K := [(a, mk)]) (k := 0)
      rw [Nat.add_zero] at this
      rw [this, lk_0]
      exact ⟨pk_us, pk_us⟩
    · rw [lk_l (by omega), pk_un e, pk_un e]
      exact hk k (by omega)
theorem p_addToLast {N a : Nat} {L : List (Nat × Nat)} {A M : Nat → Int32} {n t : Int32} {b mk : Nat} (h : rowR (L ++ [(b, mk)]) A M n t) (hN : L.length < N) (hN2 : N < 2 ^ 30) : ∃ A' : Nat → Int32, f_X5_addToLast N (nI a) A n t = some (A', nI (tot (L ++ [(b + a, mk)]))) ∧ rowR (L ++ [(b + a, mk)]) A' M n (nI (tot (L ++ [(b + a, mk)]))) := by
  obtain ⟨rfl, rfl, hk⟩ := h
  have hlen : (L ++ [(b, mk)]).length = L.length + 1 := by rw [List.length_append]; rfl
  rw [hlen] at hk ⊢
  have hg := nI_in (c := L.length) (N := N) hN (by omega)
  have hl := hk L.length (by omega)
  have hr := lk_r (L := L) (K := [(b, mk)]) (k := 0)
  rw [Nat.add_zero, lk_0] at hr
  rw [hr] at hl
  have ht : tot (L ++ [(b + a, mk)]) = tot (L ++ [(b, mk)]) + a := by
    rw [tot_app, tot_app]; simp only [tot]; omega
  refine ⟨upd A L.length (nI (b + a)), ?_, ?_, rfl, ?_⟩
  · rw [f_X5_addToLast, if_neg (nI_nle (by omega) (by omega)), fa_L, pk_sub (by omega), Nat.add_sub_cancel]
    simp only [gd_t hg, lt_v]
    simp only [nI_clamp (show L.length < 2 ^ 31 by omega), hl.1, nI_add, ht]
  · rw [List.length_append]; rfl
  · intro k hk2
    rw [List.length_append, List.length_singleton] at hk2
    by_cases e : k = L.length
    · subst e
      have := lk_r (L := L) (K := [(b + a, mk)]) (k := 0)
      rw [Nat.add_zero] at this
      rw [this, lk_0]
      exact ⟨pk_us, hl.2⟩
    · rw [lk_l (by omega), pk_un e]
      have := hk k (by omega)
      rw [lk_l (by omega)] at this
      exact this
theorem p_amountAt {N k : Nat} {L : List (Nat × Nat)} {A M : Nat → Int32} {n t : Int32} (h : rowR L A M n t) (hN : L.length ≤ N) (hN2 : N < 2 ^ 30) (hk : k < L.length) : f_X5_amountAt N (nI k) A n = some (nI (lk L k).1) := by
  obtain ⟨rfl, rfl, hh⟩ := h
  have hg := nI_in (c := k) (N := N) (by omega) (by omega)
  rw [f_X5_amountAt, if_neg (nI_pos (by omega)), if_pos (nI_lt hk (by omega)), gd_t hg, nI_clamp (by omega), (hh k hk).1]
theorem p_markAt {N k : Nat} {L : List (Nat × Nat)} {A M : Nat → Int32} {n t : Int32} (h : rowR L A M n t) (hN : L.length ≤ N) (hN2 : N < 2 ^ 30) (hk : k < L.length) : f_X5_markAt N (nI k) M n = some (nI (lk L k).2) := by
  obtain ⟨rfl, rfl, hh⟩ := h
  have hg := nI_in (c := k) (N := N) (by omega) (by omega)
  rw [f_X5_markAt, if_neg (nI_pos (by omega)), if_pos (nI_lt hk (by omega)), gd_t hg, nI_clamp (by omega), (hh k hk).2]
theorem p_dropFirst {N e : Nat} {L : List (Nat × Nat)} {A M : Nat → Int32} (hN : e + L.length ≤ N) (hN2 : N < 2 ^ 30) (hh : ∀ k : Nat, k < L.length → A (e + k) = nI (lk L k).1 ∧ M (e + k) = nI (lk L k).2) : ∃ A' M' : Nat → Int32, f_X5_dropFirst N (nI e) A M (nI (e + L.length)) = some (A', M', nI L.length) ∧ rowR L A' M' (nI L.length) (nI (tot L)) := by
  have hg : ¬ nI e < 0 ∧ ¬ (0 : Int32) < 0 ∧ ¬ nI L.length < 0 ∧ (nI e).toNatClampNeg + (nI L.length).toNatClampNeg ≤ N ∧ (0 : Int32).toNatClampNeg + (nI L.length).toNatClampNeg ≤ N := by
    rw [nI_clamp (by omega), nI_clamp (by omega)]
    exact ⟨nI_pos (by omega), by decide, nI_pos (by omega), hN, by show 0 + _ ≤ _; omega⟩
  refine ⟨va_cpy A A e 0 L.length, va_cpy M M e 0 L.length, ?_, rfl, rfl, ?_⟩
  · rw [f_X5_dropFirst, pk_sub (by omega), Nat.add_sub_cancel_left]
    simp only [gd_t hg, lt_v]
    simp only [nI_clamp (show e < 2 ^ 31 by omega), nI_clamp (show L.length < 2 ^ 31 by omega)]
    rfl
  · intro k hk
    rw [pk_cpy_in (Nat.zero_le _) (by omega), pk_cpy_in (Nat.zero_le _) (by omega)]
    exact hh k hk
/-- the earliest ones go, l altogether: what goes, what stays -/
def tk : Nat → List (Nat × Nat) → List (Nat × Nat) × List (Nat × Nat)
  | _, [] => ([], [])
  | l, p :: L => if l = 0 then ([], p :: L) else if l < p.1 then ([(l, p.2)], (p.1 - l, p.2) :: L) else ((p.1, p.2) :: (tk (l - p.1) L).1, (tk (l - p.1) L).2)
theorem tk_0 (L : List (Nat × Nat)) : tk 0 L = ([], L) := by
  cases L with
  | nil => rfl
  | cons p L => rw [tk, if_pos rfl]
theorem tk_tot : ∀ (L : List (Nat × Nat)) (l : Nat), tot (tk l L).1 = min l (tot L) ∧ tot (tk l L).2 = tot L - l
  | [], l => by simp [tk, tot]
  | p :: L, l => by
    rw [tk]
    split
    · simp only [tot]; omega
    · split
      · simp only [tot]; omega
      · have h := tk_tot L (l - p.1)
        simp only [tot, h.1, h.2]
        omega
theorem tk_ok : ∀ {L : List (Nat × Nat)} (l : Nat), okR L → okR (tk l L).1 ∧ okR (tk l L).2
  | [], l, h => ⟨h, h⟩
  | p :: L, l, h => by
    have h1 := (okR_c h).1
    have h2 := (okR_c h).2
    rw [tk]
    split
    · exact ⟨fun q hq => (by cases hq), h⟩
    · split
      · exact ⟨okR_cc (by simp only; omega) (fun q hq => (by cases hq)), okR_cc (by simp only; omega) h2⟩
      · have h3 := tk_ok (l - p.1) h2
        exact ⟨okR_cc h1 h3.1, h3.2⟩
theorem tk_len : ∀ (L : List (Nat × Nat)) (l : Nat), (tk l L).1.length ≤ L.length ∧ (tk l L).2.length ≤ L.length
  | [], l => ⟨Nat.le_refl _, Nat.le_refl _⟩
  | p :: L, l => by
    rw [tk]
    split
    · exact ⟨Nat.zero_le _, Nat.le_refl _⟩
    · split
      · simp only [List.length_cons, List.length_nil]; omega
      · have h := tk_len L (l - p.1)
        simp only [List.length_cons]
        omega
/-- marks changed on the way -/
def mk2 (g : Nat → Nat) (L : List (Nat × Nat)) : List (Nat × Nat) := L.map (fun p => (p.1, g p.2))
theorem mk2_tot (g : Nat → Nat) (L : List (Nat × Nat)) : tot (mk2 g L) = tot L := by
  induction L with
  | nil => rfl
  | cons p L ih => show p.1 + tot (mk2 g L) = _; rw [ih]; rfl
theorem mk2_len (g : Nat → Nat) (L : List (Nat × Nat)) : (mk2 g L).length = L.length := List.length_map _
theorem app1 {α : Type} (L : List α) (x : α) (K : List α) : L ++ [x] ++ K = L ++ x :: K := by simp
theorem p_letL {N N2 : Nat} {y2 : Int32} {g : Nat → Nat} (hN : N < 2 ^ 30) (hN2 : N2 < 2 ^ 30) (y1 t : Int32) : ∀ (Lr : List (Nat × Nat)) (l i fuel : Nat) (A M A2 M2 : Nat → Int32) (n2 t2 : Int32) (L2 : List (Nat × Nat)), okR Lr → l < 2 ^ 30 → (∀ k : Nat, k < Lr.length → A (i + k) = nI (lk Lr k).1 ∧ M (i + k) = nI (lk Lr k).2) → i + Lr.length ≤ N → rowR L2 A2 M2 n2 t2 → L2.length + (tk l Lr).1.length ≤ N2 → Lr.length < fuel → (∀ p ∈ Lr, nI p.2 ||| y2 = nI (g p.2)) →
    ∃ (A' A2' M2' : Nat → Int32) (e : Nat), f_X5_letOut_L9 N N2 y1 y2 fuel (nI l) (nI i) (nI i) A M (nI (i + Lr.length)) t A2 M2 n2 t2 = f_X5_letOut_J90 N N2 y1 (nI (l - tot Lr)) (nI e) A' M (nI (i + Lr.length)) t A2' M2' (nI (L2 ++ mk2 g (tk l Lr).1).length) (nI (tot (L2 ++ mk2 g (tk l Lr).1))) ∧ rowR (L2 ++ mk2 g (tk l Lr).1) A2' M2' (nI (L2 ++ mk2 g (tk l Lr).1).length) (nI (tot (L2 ++ mk2 g (tk l Lr).1))) ∧ e + (tk l Lr).2.length = i + Lr.length ∧ ∀ k : Nat, k < (tk l Lr).2.length → A' (e + k) = nI (lk (tk l Lr).2 k).1 ∧ M (e + k) = nI (lk (tk l Lr).2 k).2 := by
  intro Lr
  induction Lr with
  | nil =>
    intro l i fuel A M A2 M2 n2 t2 L2 hok hl hA hi hr hn2 hf hg
    obtain ⟨fu, rfl⟩ : ∃ fu, fuel = fu + 1 := ⟨fuel - 1, by omega⟩
    obtain ⟨rfl, rfl, hr3⟩ := hr
    refine ⟨A, A2, M2, i, ?_, ?_, rfl, fun k h => absurd h (Nat.not_lt_zero k)⟩
    · rw [f_X5_letOut_L9, if_pos (show nI (i + ([] : List (Nat × Nat)).length) ≤ nI i from nI_le (Nat.le_refl _) (by omega))]
      simp only [tk, mk2, List.map_nil, List.append_nil, tot, Nat.sub_zero]
    · simp only [tk, mk2, List.map_nil, List.append_nil]
      exact ⟨rfl, rfl, hr3⟩
  | cons p Lr ih =>
    intro l i fuel A M A2 M2 n2 t2 L2 hok hl hA hi hr hn2 hf hg
    obtain ⟨fu, rfl⟩ : ∃ fu, fuel = fu + 1 := ⟨fuel - 1, by omega⟩
    simp only [List.length_cons] at hi hf ⊢
    obtain ⟨hp, hok2⟩ := okR_c hok
    by_cases h0 : l = 0
    · subst h0
      obtain ⟨rfl, rfl, hr3⟩ := hr
      refine ⟨A, A2, M2, i, ?_, ?_, ?_, ?_⟩
      · rw [f_X5_letOut_L9, if_neg (nI_ge (by omega) (by omega)), if_pos (by rw [nI_0]; exact Int32.le_refl 0)]
        simp only [tk, if_pos, mk2, List.map_nil, List.append_nil, Nat.zero_sub]
      · simp only [tk, if_pos, mk2, List.map_nil, List.append_nil]
        exact ⟨rfl, rfl, hr3⟩
      · simp only [tk, if_pos, List.length_cons]
      · simp only [tk, if_pos]
        exact hA
    · have hgi := nI_in (c := i) (N := N) (by omega) (by omega)
      have hA0 := hA 0 (by simp)
      rw [Nat.add_zero, lk_0] at hA0
      have hm := hg p List.mem_cons_self
      by_cases h1 : l < p.1
      · -- a part of the first goes
        rw [tk, if_neg h0, if_pos h1] at hn2 ⊢
        simp only [List.length_cons, List.length_nil] at hn2
        obtain ⟨A3, M3, e3, hr3⟩ := p_append (a := l) (mk := g p.2) hr (by omega) hN2
        refine ⟨upd A i (nI (p.1 - l)), A3, M3, i, ?_, ?_, ?_, ?_⟩
        · rw [f_X5_letOut_L9, if_neg (nI_ge (by omega) (by omega)), if_neg (nI_nle (by omega) (by omega))]
          simp only [gd_t hgi, lt_v]
          simp only [nI_clamp (show i < 2 ^ 31 by omega), hA0.1, hA0.2, hm]
          rw [if_neg (nI_nlt (by omega) (by omega)), e3]
          simp only [Option.bind_some, pk_us, f_X5_letOut_J84, lt_v]
          rw [pk_sub (by omega), if_neg (nI_ne0 (by omega) (by omega)), pk_sub (Nat.le_refl _), fa_L, nI_add, Nat.sub_self]
          obtain ⟨fu2, rfl⟩ : ∃ fu2, fu = fu2 + 1 := ⟨fu - 1, by omega⟩
          rw [f_X5_letOut_L9]
          have e1 : l - tot (p :: Lr) = 0 := by simp only [tot]; omega
          have e2 : (L2 ++ mk2 g [(l, p.2)]).length = L2.length + 1 := by rw [List.length_append]; rfl
          have e4 : tot (L2 ++ mk2 g [(l, p.2)]) = tot L2 + l := by rw [tot_app]; rfl
          rw [e1, e2, e4]
          by_cases h2 : Lr.length = 0
          · rw [if_pos (nI_le (by omega) (by omega))]
          · rw [if_neg (nI_ge (by omega) (by omega)), if_pos (by rw [nI_0]; exact Int32.le_refl 0)]
        · have e2 : (L2 ++ mk2 g [(l, p.2)]).length = L2.length + 1 := by rw [List.length_append]; rfl
          have e4 : tot (L2 ++ mk2 g [(l, p.2)]) = tot L2 + l := by rw [tot_app]; rfl
          rw [e2, e4]
          exact hr3
        · simp only [List.length_cons]
        · intro k hk
          cases k with
          | zero =>
            rw [Nat.add_zero, lk_0, pk_us]
            exact ⟨rfl, hA0.2⟩
          | succ k =>
            rw [lk_s, pk_un (by omega)]
            have := hA (k + 1) (by simp only [List.length_cons] at hk ⊢; omega)
            rw [lk_s] at this
            exact this
      · -- all of the first goes
        rw [tk, if_neg h0, if_neg h1] at hn2 ⊢
        simp only [List.length_cons] at hn2
        obtain ⟨A3, M3, e3, hr3⟩ := p_append (a := p.1) (mk := g p.2) hr (by omega) hN2
        obtain ⟨A', A2', M2', e, h5, h6, h7, h8⟩ := ih (l - p.1) (i + 1) fu (upd A i (nI 0)) M A3 M3 _ _ (L2 ++ [(p.1, g p.2)]) hok2 (by omega) (fun k hk => by
          have := hA (k + 1) (by simp only [List.length_cons]; omega)
          rw [lk_s] at this
          rw [pk_un (by omega), show i + 1 + k = i + (k + 1) by omega]
          exact this) (by omega) hr3 (by rw [List.length_append]; simp only [List.length_singleton]; omega) (by omega) (fun q hq => hg q (List.mem_cons_of_mem _ hq))
        have e6 : L2 ++ [(p.1, g p.2)] ++ mk2 g (tk (l - p.1) Lr).1 = L2 ++ mk2 g ((p.1, p.2) :: (tk (l - p.1) Lr).1) := app1 _ _ _
        rw [e6] at h5 h6
        rw [show i + 1 + Lr.length = i + (Lr.length + 1) by omega] at h5
        refine ⟨A', A2', M2', e, ?_, h6, ?_, h8⟩
        · rw [f_X5_letOut_L9, if_neg (nI_ge (by omega) (by omega)), if_neg (nI_nle (by omega) (by omega))]
          simp only [gd_t hgi, lt_v]
          simp only [nI_clamp (show i < 2 ^ 31 by omega), hA0.1, hA0.2, hm]
          have e7 : (if nI p.1 < nI l then nI p.1 else nI l) = nI p.1 := by
            by_cases h2 : p.1 < l
            · rw [if_pos (nI_lt h2 (by omega))]
            · rw [if_neg (nI_nlt (by omega) (by omega))]
              exact nI_inj (by omega)
          rw [e7, e3]
          simp only [Option.bind_some, pk_us, f_X5_letOut_J84, lt_v]
          rw [pk_sub (Nat.le_refl _), Nat.sub_self, if_pos nI_0, pk_sub (by omega), fa_L, nI_add, h5]
          rw [show l - p.1 - tot Lr = l - tot (p :: Lr) by simp only [tot]; omega]
        · show e + (tk (l - p.1) Lr).2.length = _
          omega
theorem p_letOut {N N2 l : Nat} {y2 : Int32} {g : Nat → Nat} {L L2 : List (Nat × Nat)} {A M A2 M2 : Nat → Int32} {n t n2 t2 : Int32} (hN : N < 20000) (hN2 : N2 < 2 ^ 30) (hok : okR L) (hr : rowR L A M n t) (hr2 : rowR L2 A2 M2 n2 t2) (hl : l ≤ tot L) (ht : tot L < 2 ^ 30) (hn : L.length ≤ N) (hn2 : L2.length + (tk l L).1.length ≤ N2) (hg : ∀ p ∈ L, nI p.2 ||| y2 = nI (g p.2)) :
    ∃ R, f_X5_letOut N N2 (nI l) y2 A M n t A2 M2 n2 t2 = some R ∧ rowR (tk l L).2 R.1 R.2.1 R.2.2.1 R.2.2.2.1 ∧ rowR (L2 ++ mk2 g (tk l L).1) R.2.2.2.2.1 R.2.2.2.2.2.1 R.2.2.2.2.2.2.1 R.2.2.2.2.2.2.2 := by
  obtain ⟨rfl, rfl, hA⟩ := hr
  obtain ⟨A', A2', M2', e, h5, h6, h7, h8⟩ := p_letL (N := N) (N2 := N2) (y2 := y2) (g := g) (by omega) hN2 (nI l) (nI (tot L)) L l 0 FU A M A2 M2 n2 t2 L2 hok (by omega) (fun k hk => by rw [Nat.zero_add]; exact hA k hk) (by omega) hr2 hn2 (by show _ < 20000; omega) hg
  rw [Nat.zero_add] at h5 h7
  obtain ⟨A3, M3, h9, h10⟩ := p_dropFirst (N := N) (e := e) (L := (tk l L).2) (A := A') (M := M) (by omega) (by omega) h8
  rw [h7] at h9
  have ht2 := (tk_tot L l).2
  refine ⟨(A3, M3, nI (tk l L).2.length, nI (tot (tk l L).2), A2', M2', _, _), ?_, h10, h6⟩
  rw [f_X5_letOut, ← nI_0, h5, f_X5_letOut_J90, h9]
  simp only [lt_v, Option.bind_some]
  rw [show l - tot L = 0 by omega, pk_sub (Nat.zero_le _), Nat.sub_zero, pk_sub hl, ht2]
  rfl
