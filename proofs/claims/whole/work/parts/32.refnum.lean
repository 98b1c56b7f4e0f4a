/-! the reference's cells -/
def enc (p : Nat × Nat) : Nat := p.1 + 512 * p.2
def rwM (b : Nat) (L : List (Nat × Nat)) (S : Nat → Int32) : Prop := S b = nI L.length ∧ ∀ k : Nat, k < L.length → S (b + 1 + k) = nI (enc (lk L k))
def loM (L : List (Nat × Nat)) (S : Nat → Int32) : Prop := S 21 = nI L.length ∧ ∀ k : Nat, k < L.length → S (22 + 2 * k) = nI (lk L k).2 ∧ S (22 + 2 * k + 1) = nI (lk L k).1
def buM (b : Nat) (x : Bu) (S : Nat → Int32) : Prop := S b = nI x.1 ∧ S (b + 1) = nI x.2.1 ∧ S (b + 2) = x.2.2.1 ∧ S (b + 3) = x.2.2.2
def stM (v : Nat → Nat) (S : Nat → Int32) : Prop := ∀ k : Nat, k < 6 → S (7 + k) = nI (v k)
def shG (f : Nat → Int32) (b : Nat) (x : Sh) : Prop := f b = x.1 ∧ f (b + 1) = nI x.2.1 ∧ f (b + 2) = x.2.2.1 ∧ f (b + 3) = x.2.2.2.1 ∧ f (b + 4) = x.2.2.2.2.1 ∧ f (b + 5) = x.2.2.2.2.2.1 ∧ f (b + 6) = x.2.2.2.2.2.2
def shM (K : List Sh) (S : Nat → Int32) : Prop := S 546 = nI K.length ∧ K.length ≤ 12 ∧ (∀ k : Nat, k < K.length → (sk0 K k).2.1 ≤ 30000) ∧ ∀ k : Nat, k < K.length → shG S (547 + 7 * k) (sk0 K k)
def MR (σ : Sp) (S : Nat → Int32) : Prop := loM (v_lo σ) S ∧ buM 13 (v_b0 σ) S ∧ buM 17 (v_b1 σ) S ∧ rwM 34 (v_ch σ) S ∧ rwM 145 (v_ba σ) S ∧ shM (v_K σ) S ∧ S 5 = v_mk σ ∧ stM (v_st σ) S ∧ S 0 = nI (v_se σ) ∧ S 1 = v_fi σ ∧ S 2 = v_gr σ ∧ S 3 = v_br σ ∧ S 4 = v_pu σ ∧ S 6 = v_nr σ
/-! what stands on other cells stays -/
theorem rwM.of {b n : Nat} {L : List (Nat × Nat)} {S S' : Nat → Int32} (h : rwM b L S) (hl : L.length ≤ n) (e : ∀ i, b ≤ i → i ≤ b + n → S' i = S i) : rwM b L S' := ⟨(e b (Nat.le_refl _) (by omega)).trans h.1, fun k hk => (e _ (by omega) (by omega)).trans (h.2 k hk)⟩
theorem loM.of {L : List (Nat × Nat)} {S S' : Nat → Int32} (h : loM L S) (hl : L.length ≤ 6) (e : ∀ i, 21 ≤ i → i ≤ 33 → S' i = S i) : loM L S' := ⟨(e 21 (by decide) (by decide)).trans h.1, fun k hk => ⟨(e _ (by omega) (by omega)).trans (h.2 k hk).1, (e _ (by omega) (by omega)).trans (h.2 k hk).2⟩⟩
theorem buM.of {b : Nat} {x : Bu} {S S' : Nat → Int32} (h : buM b x S) (e : ∀ i, b ≤ i → i ≤ b + 3 → S' i = S i) : buM b x S' := ⟨(e _ (by omega) (by omega)).trans h.1, (e _ (by omega) (by omega)).trans h.2.1, (e _ (by omega) (by omega)).trans h.2.2.1, (e _ (by omega) (by omega)).trans h.2.2.2⟩
theorem stM.of {v : Nat → Nat} {S S' : Nat → Int32} (h : stM v S) (e : ∀ i, 7 ≤ i → i ≤ 12 → S' i = S i) : stM v S' := fun k hk => (e _ (by omega) (by omega)).trans (h k hk)
theorem shG.of {f f' : Nat → Int32} {b : Nat} {x : Sh} (h : shG f b x) (e : ∀ i, b ≤ i → i ≤ b + 6 → f' i = f i) : shG f' b x := ⟨(e _ (by omega) (by omega)).trans h.1, (e _ (by omega) (by omega)).trans h.2.1, (e _ (by omega) (by omega)).trans h.2.2.1, (e _ (by omega) (by omega)).trans h.2.2.2.1, (e _ (by omega) (by omega)).trans h.2.2.2.2.1, (e _ (by omega) (by omega)).trans h.2.2.2.2.2.1, (e _ (by omega) (by omega)).trans h.2.2.2.2.2.2⟩
theorem shM.of {K : List Sh} {S S' : Nat → Int32} (h : shM K S) (e : ∀ i, 546 ≤ i → i ≤ 630 → S' i = S i) : shM K S' := ⟨(e _ (by omega) (by omega)).trans h.1, h.2.1, h.2.2.1, fun k hk => (h.2.2.2 k hk).of (fun i h1 h2 => e i (by omega) (by have := h.2.1; omega))⟩
theorem MR.of {σ : Sp} {B : Nat} {S S' : Nat → Int32} (h : MR σ S) (hk : KK σ B) (e : ∀ i, i ≤ 630 → S' i = S i) : MR σ S' := by
  obtain ⟨h1, h2, h3, h4, h5, h6, h7, h8, h9, h10, h11, h12, h13, h14⟩ := h
  obtain ⟨k1, k2, k3, k4, k5, k6, k7, k8, k9, k10, k11, k12, k13, k14⟩ := hk
  have l1 := len_tot k5
  have l2 := len_tot k8
  exact ⟨h1.of k4 (fun i _ q => e i (by omega)), h2.of (fun i _ q => e i (by omega)), h3.of (fun i _ q => e i (by omega)), h4.of (n := 100) (by omega) (fun i _ q => e i (by omega)), h5.of (n := 400) (by omega) (fun i _ q => e i (by omega)), h6.of (fun i _ q => e i (by omega)), (e _ (by decide)).trans h7, h8.of (fun i _ q => e i (by omega)), (e _ (by decide)).trans h9, (e _ (by decide)).trans h10, (e _ (by decide)).trans h11, (e _ (by decide)).trans h12, (e _ (by decide)).trans h13, (e _ (by decide)).trans h14⟩
/-! numbers -/
theorem cN {n : Nat} (h : n < 2 ^ 31) : (OfNat.ofNat n : Int32).toNatClampNeg = n := nI_clamp h
theorem r_in (x a b : Int32) : f_X8_in x a b = some (if x < a ∨ b < x then 0 else 1) := by
  rw [f_X8_in]
  by_cases h1 : x < a
  · rw [if_pos h1, if_pos (Or.inl h1)]
  · rw [if_neg h1]
    by_cases h2 : b < x
    · rw [if_pos h2, if_pos (Or.inr h2)]
    · rw [if_neg h2, if_neg (fun q => by rcases q with q | q; exact h1 q; exact h2 q)]
theorem in01 {x : Int32} : (x < 0 ∨ 1 < x) ↔ ¬ (x = 0 ∨ x = 1) := by
  constructor
  · rintro h (rfl | rfl)
    · rcases h with h | h <;> exact absurd h (by decide)
    · rcases h with h | h <;> exact absurd h (by decide)
  · intro h
    refine Classical.byContradiction (fun q => h ?_)
    have h1 : ¬ x < 0 := fun z => q (Or.inl z)
    have h2 : ¬ 1 < x := fun z => q (Or.inr z)
    obtain ⟨j, hj, rfl⟩ := nI_of h1
    have : j ≤ 1 := Nat.not_lt.mp (fun z => h2 (nI_lt z hj))
    rcases (show j = 0 ∨ j = 1 by omega) with rfl | rfl
    · exact Or.inl rfl
    · exact Or.inr rfl
theorem r_isOne (x : Int32) : f_X8_isOne x = some (if x = 0 ∨ x = 1 then 1 else 0) := by
  rw [f_X8_isOne, r_in]
  simp only [Option.bind_some]
  by_cases h : x = 0 ∨ x = 1
  · rw [if_neg (fun q => in01.mp q h), if_pos h, gd_t (Or.inr rfl)]
  · rw [if_pos (in01.mpr h), if_neg h, gd_t (Or.inl rfl)]
theorem enc_lt {p : Nat × Nat} (h : p.1 < 512) (h2 : p.2 < 4096) : enc p < 2 ^ 30 := by unfold enc; omega
theorem r_amountOf {p : Nat × Nat} (h : p.1 < 512) (h2 : p.2 < 4096) : f_X8_amountOf (nI (enc p)) = some (nI p.1) := by
  have := enc_lt h h2
  rw [f_X8_amountOf, fa_lit 512, pk_rem (by omega) (by decide) (by decide)]
  unfold enc
  exact so_inj (nI_inj (by omega))
theorem r_kindOf {p : Nat × Nat} (h : p.1 < 512) (h2 : p.2 < 4096) : f_X8_kindOf (nI (enc p)) = some (nI (p.2 % 2)) := by
  have := enc_lt h h2
  rw [f_X8_kindOf, fa_lit 512, fa_lit 2, pk_div (by omega) (by decide) (by decide), pk_rem (by omega) (by decide) (by decide)]
  unfold enc
  exact so_inj (nI_inj (by omega))
theorem r_burrIn {p : Nat × Nat} (h : p.1 < 512) (h2 : p.2 < 4096) : f_X8_burrIn (nI (enc p)) = some (nI (p.2 / 2 % 2)) := by
  have := enc_lt h h2
  rw [f_X8_burrIn, fa_lit 1024, fa_lit 2, pk_div (by omega) (by decide) (by decide), pk_rem (by omega) (by decide) (by decide)]
  unfold enc
  exact so_inj (nI_inj (by omega))
theorem r_gapOf {p : Nat × Nat} (h : p.1 < 512) (h2 : p.2 < 4096) : f_X8_gapOf (nI (enc p)) = some (nI (p.2 / 4)) := by
  have := enc_lt h h2
  rw [f_X8_gapOf, fa_lit 2048, pk_div (by omega) (by decide) (by decide)]
  unfold enc
  exact so_inj (nI_inj (by omega))
theorem r_gapBy {d w : Nat} (hd : d < 2 ^ 20) (hw : w < 2 ^ 20) : f_X8_gapBy (nI d) (nI w) = some (nI (gp d w)) := by
  rw [f_X8_gapBy]
  unfold gp
  rw [fa_lit 10, fa_lit 5, pk_mul, pk_div (by omega) (by decide) (by decide), lt_v]
  by_cases h : w / 5 ≤ 10 * d
  · rw [pk_sub h]
    by_cases h2 : 10 ≤ 10 * d - w / 5
    · rw [if_pos (nI_le h2 (by omega))]
      exact so_inj (nI_inj (by omega))
    · rw [if_neg (nI_ge (by omega) (by omega))]
      exact so_inj (nI_inj (by omega))
  · have hn : nI (10 * d) - nI (w / 5) < 0 := pk_sneg (by omega) (by omega)
    rw [if_neg (fun q => ?_)]
    · exact so_inj (nI_inj (by omega))
    · rw [Int32.lt_iff_toInt_lt, Int32.toInt_zero] at hn
      rw [Int32.le_iff_toInt_le, nI_toInt (by decide)] at q
      omega
theorem r_fall {w : Nat} (h : w < 2 ^ 31) : f_X8_fall (nI w) = some (nI (fl w)) := by
  rw [f_X8_fall]
  unfold fl
  by_cases h0 : w = 0
  · subst h0; rfl
  · rw [if_neg (nI_ne0 (by omega) h), if_neg h0, fa_lit 16]
    by_cases h1 : w < 16
    · rw [if_neg (nI_ge h1 (by decide)), if_pos h1]; rfl
    · rw [if_pos (nI_le (by omega) h), if_neg h1, pk_div h (by decide) (by decide)]
/-- what a portion of the chute or of the basket is -/
def okP (L : List (Nat × Nat)) : Prop := ∀ p ∈ L, 1 ≤ p.1 ∧ p.1 < 512 ∧ p.2 < 4096
theorem okP_of {L : List (Nat × Nat)} (h : okR L) (ht : tot L < 512) : okP L := by
  induction L with
  | nil => exact fun p hp => by cases hp
  | cons q L ih =>
    obtain ⟨h1, h2⟩ := okR_c h
    simp only [tot] at ht
    intro p hp
    rcases List.mem_cons.mp hp with rfl | hp
    · exact ⟨h1.1, by omega, h1.2.2⟩
    · exact ih h2 (by omega) p hp
theorem r_amounts_L {b : Nat} {L : List (Nat × Nat)} {S : Nat → Int32} (h : rwM b L S) (hok : okP L) (hb : b + 1 + L.length ≤ 631) : ∀ (m i s fuel : Nat) (Lr : List (Nat × Nat)), Lr.length = m → i + m = L.length → (∀ k : Nat, k < m → lk Lr k = lk L (i + k)) → m < fuel → f_X8_amounts_L5 S (nI b) (nI (b + 1)) fuel (nI s) (nI i) = some (nI (s + tot Lr)) := by
  intro m
  induction m with
  | zero =>
    intro i s fuel Lr hL hi hk hf
    obtain ⟨fu, rfl⟩ : ∃ fu, fuel = fu + 1 := ⟨fuel - 1, by omega⟩
    have hL0 : Lr = [] := List.length_eq_zero_iff.mp hL
    subst hL0
    rw [f_X8_amounts_L5, gd_t (nI_in (by omega) (by decide)), v_cl (by omega), h.1, if_pos (nI_le (by omega) (by omega))]
    rfl
  | succ m ih =>
    intro i s fuel Lr hL hi hk hf
    obtain ⟨fu, rfl⟩ : ∃ fu, fuel = fu + 1 := ⟨fuel - 1, by omega⟩
    match Lr, hL with
    | p :: Lr, hL =>
      simp only [List.length_cons] at hL
      have h1 := hk 0 (by omega)
      rw [lk_0, Nat.add_zero] at h1
      have hp := hok (lk L i) (lk_m (by omega))
      have ih' := ih (i + 1) (s + p.1) fu Lr (by omega) (by omega) (fun k q => by
        have := hk (k + 1) (by omega)
        rw [lk_s] at this
        rw [this, show i + (k + 1) = i + 1 + k by omega]) (by omega)
      rw [f_X8_amounts_L5, gd_t (nI_in (by omega) (by decide)), v_cl (by omega), h.1, if_neg (nI_ge (by omega) (by omega)), nI_add, gd_t (nI_in (by omega) (by decide)), v_cl (by omega), h.2 i (by omega), r_amountOf hp.2.1 hp.2.2]
      simp only [Option.bind_some, lt_v]
      rw [← h1, nI_add, fa_lit 1, nI_add, ih']
      simp only [tot, Nat.add_assoc]
theorem r_amounts {b : Nat} {L : List (Nat × Nat)} {S : Nat → Int32} (h : rwM b L S) (hok : okP L) (hb : b + 1 + L.length ≤ 631) : f_X8_amounts (nI b) (nI (b + 1)) S = some (nI (tot L)) := by
  have := r_amounts_L h hok hb L.length 0 0 FU L rfl (by omega) (fun k _ => by rw [Nat.zero_add]) (by show _ < 20000; omega)
  rw [nI_0, Nat.zero_add] at this
  exact this
theorem r_hopper_L {L : List (Nat × Nat)} {S : Nat → Int32} (h : loM L S) (hl : L.length ≤ 6) : ∀ (m i s fuel : Nat) (Lr : List (Nat × Nat)), Lr.length = m → i + m = L.length → (∀ k : Nat, k < m → lk Lr k = lk L (i + k)) → m < fuel → f_X8_hopper_L4 S fuel (nI s) (nI i) = some (nI (s + tot Lr)) := by
  intro m
  induction m with
  | zero =>
    intro i s fuel Lr hL hi hk hf
    obtain ⟨fu, rfl⟩ : ∃ fu, fuel = fu + 1 := ⟨fuel - 1, by omega⟩
    have hL0 : Lr = [] := List.length_eq_zero_iff.mp hL
    subst hL0
    rw [f_X8_hopper_L4, cN (n := 21) (by decide), h.1, if_pos (nI_le (by omega) (by omega))]
    rfl
  | succ m ih =>
    intro i s fuel Lr hL hi hk hf
    obtain ⟨fu, rfl⟩ : ∃ fu, fuel = fu + 1 := ⟨fuel - 1, by omega⟩
    match Lr, hL with
    | p :: Lr, hL =>
      simp only [List.length_cons] at hL
      have h1 := hk 0 (by omega)
      rw [lk_0, Nat.add_zero] at h1
      have ih' := ih (i + 1) (s + p.1) fu Lr (by omega) (by omega) (fun k q => by
        have := hk (k + 1) (by omega)
        rw [lk_s] at this
        rw [this, show i + (k + 1) = i + 1 + k by omega]) (by omega)
      rw [f_X8_hopper_L4, cN (n := 21) (by decide), h.1, if_neg (nI_ge (by omega) (by omega)), fa_lit 22, fa_lit 2, fa_lit 1, pk_mul, nI_add, nI_add, gd_t (nI_in (by omega) (by decide)), v_cl (by omega), (h.2 i (by omega)).2]
      simp only [lt_v]
      rw [← h1, nI_add, nI_add, ih']
      simp only [tot, Nat.add_assoc]
theorem r_hopper {L : List (Nat × Nat)} {S : Nat → Int32} (h : loM L S) (hl : L.length ≤ 6) : f_X8_hopper S = some (nI (tot L)) := by
  have := r_hopper_L h hl L.length 0 0 FU L rfl (by omega) (fun k _ => by rw [Nat.zero_add]) (by show _ < 20000; omega)
  rw [nI_0, Nat.zero_add] at this
  exact this
theorem r_ofBurr {b w : Nat} {S : Nat → Int32} (hb : b < 2) (hw : w < 4) : f_X8_ofBurr (nI b) (nI w) S = some (S (13 + 4 * b + w)) := by
  rw [f_X8_ofBurr, fa_lit 13, fa_lit 4, pk_mul, nI_add, nI_add, gd_t (nI_in (by omega) (by decide)), v_cl (by omega)]
/-- both burrs at their cells -/
theorem bs_M {σ : Sp} {S : Nat → Int32} (h : MR σ S) {b : Nat} (hb : b < 2) : buM (13 + 4 * b) (bsel (v_b0 σ) (v_b1 σ) b) S := by
  rcases (show b = 0 ∨ b = 1 by omega) with rfl | rfl
  · exact h.2.1
  · exact h.2.2.1
theorem r_gap {x : Bu} {b : Nat} {S : Nat → Int32} (hb : b < 2) (h : buM (13 + 4 * b) x S) (hx : buK x) : f_X8_gap (nI b) S = some (nI (gp x.1 x.2.1)) := by
  obtain ⟨x1, x2, x3⟩ := hx
  rw [f_X8_gap, ← nI_0, r_ofBurr hb (by decide)]
  simp only [Option.bind_some]
  rw [fa_lit 1, r_ofBurr hb (by decide)]
  simp only [Option.bind_some]
  rw [Nat.add_zero, h.1, h.2.1, r_gapBy (by omega) (by omega)]
  rfl
