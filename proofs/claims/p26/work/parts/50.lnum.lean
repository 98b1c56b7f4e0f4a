/-! the law's own arrays, its small methods -/
theorem cN {n : Nat} (h : n < 2 ^ 31) : (OfNat.ofNat n : Int32).toNatClampNeg = n := nI_clamp h
def en (p : Nat × Nat) : Nat := p.1 + 1000 * p.2
def rwE (L : List (Nat × Nat)) (A : Nat → Int32) : Prop := A 0 = nI L.length ∧ ∀ k : Nat, k < L.length → A (k + 1) = nI (en (lk L k))
def okE (L : List (Nat × Nat)) : Prop := ∀ p ∈ L, 1 ≤ p.1 ∧ p.1 < 1000 ∧ 40 ≤ p.2 ∧ p.2 < 2404
def loE (L : List (Nat × Nat)) (G A : Nat → Int32) : Prop := G 13 = nI L.length ∧ ∀ k : Nat, k < L.length → A (2 * k) = nI (lk L k).2 ∧ A (2 * k + 1) = nI (lk L k).1
def buE (b : Nat) (x : Bu) (A : Nat → Int32) : Prop := A (4 * b) = nI x.1 ∧ A (4 * b + 1) = nI x.2.1 ∧ A (4 * b + 2) = x.2.2.1 ∧ A (4 * b + 3) = x.2.2.2
def stE (v : Nat → Nat) (G : Nat → Int32) : Prop := ∀ k : Nat, k < 6 → G (7 + k) = nI (v k)
def shE (K : List Sh) (T X : Nat → Int32) : Prop := ∀ k : Nat, k < K.length → T (3 * k) = (sk0 K k).1 ∧ T (3 * k + 1) = nI (sk0 K k).2.1 ∧ T (3 * k + 2) = (sk0 K k).2.2.1 ∧ X (4 * k) = (sk0 K k).2.2.2.1 ∧ X (4 * k + 1) = (sk0 K k).2.2.2.2.1 ∧ X (4 * k + 2) = (sk0 K k).2.2.2.2.2.1 ∧ X (4 * k + 3) = (sk0 K k).2.2.2.2.2.2
/-- the law's arrays hold the state -/
def LR (σ : Sp) (G U H C E T X : Nat → Int32) : Prop := loE (v_lo σ) G H ∧ buE 0 (v_b0 σ) U ∧ buE 1 (v_b1 σ) U ∧ rwE (v_ch σ) C ∧ rwE (v_ba σ) E ∧ shE (v_K σ) T X ∧ G 14 = nI (v_K σ).length ∧ G 5 = v_mk σ ∧ stE (v_st σ) G ∧ G 0 = nI (v_se σ) ∧ G 1 = v_fi σ ∧ G 2 = v_gr σ ∧ G 3 = v_br σ ∧ G 4 = v_pu σ ∧ G 6 = v_nr σ
theorem okE_of {L : List (Nat × Nat)} (h : okR L) (h2 : mkK L) (ht : tot L < 1000) : okE L := by
  induction L with
  | nil => exact fun p hp => by cases hp
  | cons q L ih =>
    obtain ⟨h1, h3⟩ := okR_c h
    simp only [tot] at ht
    intro p hp
    rcases List.mem_cons.mp hp with rfl | hp
    · have := h2 p List.mem_cons_self
      exact ⟨h1.1, by omega, this.1, this.2⟩
    · exact ih h3 (fun q hq => h2 q (List.mem_cons_of_mem _ hq)) (by omega) p hp
theorem en_lt {p : Nat × Nat} (h : p.1 < 1000) (h2 : p.2 < 2404) : en p < 2 ^ 22 := by unfold en; omega
theorem L_low (x : Int32) {n : Nat} (h0 : 0 < n) (hn : n < 2 ^ 31) : ∃ j : Nat, j < n ∧ f_L_low x (nI n) = some (nI j) := by
  refine ⟨x.toBitVec.toNat % 2 ^ 31 % n, Nat.mod_lt _ h0, ?_⟩
  have e := pk_and x (m := (2147483647 : Int32)) 31 (by decide)
  have hl : x.toBitVec.toNat % 2 ^ 31 < 2 ^ 31 := Nat.mod_lt _ (by decide)
  rw [f_L_low, gd_t (nI_ne0 h0 hn), e, pk_rem hl h0 hn]
theorem L_gap {d w : Nat} (hd : d < 2 ^ 20) (hw : w < 2 ^ 20) : f_L_gap (nI d) (nI w) = some (nI (gp d w)) := by
  rw [f_L_gap]
  unfold gp
  rw [fa_lit 10, fa_lit 5, pk_mul, pk_div (by omega) (by decide) (by decide)]
  by_cases h : w / 5 ≤ 10 * d
  · rw [pk_sub h]
    by_cases h2 : 10 * d - w / 5 ≤ 10
    · rw [if_pos (nI_le h2 (by omega))]
      exact so_inj (nI_inj (by omega))
    · rw [if_neg (nI_ge (by omega) (by omega))]
      exact so_inj (nI_inj (by omega))
  · have hn : nI (10 * d) - nI (w / 5) < 0 := pk_sneg (by omega) (by omega)
    rw [if_pos (Int32.le_of_lt (show nI (10 * d) - nI (w / 5) < nI 10 from ?_))]
    · exact so_inj (nI_inj (by omega))
    · rw [Int32.lt_iff_toInt_lt, Int32.toInt_zero] at hn
      rw [Int32.lt_iff_toInt_lt, nI_toInt (by decide)]
      omega
theorem L_flow {v : Nat → Nat} {G : Nat → Int32} {p : Nat × Nat} (hs : stE v G) (hv : stK v) (h1 : p.1 < 1000) (h2 : 40 ≤ p.2) (h3 : p.2 < 2404) : f_L_flow (nI (en p)) G = some (nI (flm v p.2)) := by
  have hl := en_lt h1 h3
  have e1 : en p / 1000 = p.2 := by unfold en; omega
  have e4 : en p / 4000 = p.2 / 4 := by unfold en; omega
  have hh := hdn_le hv (p.2 % 2)
  have eg : G (10 + p.2 % 2) = nI (hdn v (p.2 % 2)) := by
    unfold hdn
    rcases (show p.2 % 2 = 0 ∨ p.2 % 2 = 1 by omega) with e | e
    · rw [e, if_pos rfl]; exact hs 3 (by decide)
    · rw [e, if_neg (by decide)]; exact hs 4 (by decide)
  rw [f_L_flow, fa_lit 1000, fa_lit 2, fa_lit 10, fa_lit 4000, pk_div (a := en p) (d := 1000) (by omega) (by decide) (by decide), pk_rem (by omega) (by decide) (by decide), nI_add, gd_t (nI_in (by omega) (by decide)), pk_div (a := en p) (d := 4000) (by omega) (by decide) (by decide), v_cl (by omega), e1, e4, gd_t (nI_ne0 (by omega) (by omega)), eg, pk_mul, pk_div (by omega) (by omega) (by omega)]
  unfold flm fw
  rw [if_neg (by omega), Nat.mul_comm]
theorem L_away {t g : Nat} {G : Nat → Int32} (h : G 7 = nI g) (ht : t < 2 ^ 30) (hg : g < 2 ^ 30) : f_L_away (nI t) G = some (nI (aw t g)) := by
  rw [f_L_away, cN (n := 7) (by decide), h]
  unfold aw
  by_cases c : t ≤ g
  · rw [if_pos (nI_le c (by omega)), pk_sub c]
    by_cases c2 : g ≤ t
    · rw [if_pos c2]; exact so_inj (nI_inj (by omega))
    · rw [if_neg c2]
  · rw [if_neg (nI_ge (by omega) (by omega)), pk_sub (by omega), if_pos (by omega)]
theorem L_amounts_L {L : List (Nat × Nat)} {A : Nat → Int32} (h : rwE L A) (hok : okE L) (hb : L.length ≤ 63) : ∀ (m i s fuel : Nat) (Lr : List (Nat × Nat)), Lr.length = m → i + m = L.length → (∀ k : Nat, k < m → lk Lr k = lk L (i + k)) → m < fuel → f_L_amounts_L4 A fuel (nI s) (nI (i + 1)) = some (nI (s + tot Lr)) := by
  intro m
  induction m with
  | zero =>
    intro i s fuel Lr hL hi hk hf
    obtain ⟨fu, rfl⟩ : ∃ fu, fuel = fu + 1 := ⟨fuel - 1, by omega⟩
    have hL0 : Lr = [] := List.length_eq_zero_iff.mp hL
    subst hL0
    rw [f_L_amounts_L4, cN (n := 0) (by decide), h.1, if_pos (nI_lt (by omega) (by omega))]
    rfl
  | succ m ih =>
    intro i s fuel Lr hL hi hk hf
    obtain ⟨fu, rfl⟩ : ∃ fu, fuel = fu + 1 := ⟨fuel - 1, by omega⟩
    match Lr, hL with
    | p :: Lr, hL =>
      simp only [List.length_cons] at hL
      have h1 := hk 0 (by omega)
      rw [lk_0, Nat.add_zero] at h1
      have hp := hok (lk L i) (lk_m (by omega))
      have hl := en_lt hp.2.1 hp.2.2.2
      have e1 : en (lk L i) % 1000 = (lk L i).1 := by unfold en; omega
      have ih' := ih (i + 1) (s + p.1) fu Lr (by omega) (by omega) (fun k q => by
        have := hk (k + 1) (by omega)
        rw [lk_s] at this
        rw [this, show i + (k + 1) = i + 1 + k by omega]) (by omega)
      rw [f_L_amounts_L4, cN (n := 0) (by decide), h.1, if_neg (nI_nlt (by omega) (by omega)), gd_t (nI_in (by omega) (by decide)), v_cl (by omega), h.2 i (by omega)]
      simp only [lt_v]
      rw [fa_lit 1000, pk_rem (by omega) (by decide) (by decide), e1, nI_add, nI_1, ← h1, ih']
      simp only [tot, Nat.add_assoc]
theorem L_amounts {L : List (Nat × Nat)} {A : Nat → Int32} (h : rwE L A) (hok : okE L) (hb : L.length ≤ 63) : f_L_amounts A = some (nI (tot L)) := by
  have := L_amounts_L h hok hb L.length 0 0 FU L rfl (by omega) (fun k _ => by rw [Nat.zero_add]) (by show _ < 20000; omega)
  rw [nI_0, Nat.zero_add, Nat.zero_add] at this
  exact this
theorem L_hopper_L {L : List (Nat × Nat)} {G A : Nat → Int32} (h : loE L G A) (hb : L.length ≤ 6) : ∀ (m i s fuel : Nat) (Lr : List (Nat × Nat)), Lr.length = m → i + m = L.length → (∀ k : Nat, k < m → lk Lr k = lk L (i + k)) → m < fuel → f_L_hopper_L4 G A fuel (nI s) (nI i) = some (nI (s + tot Lr)) := by
  intro m
  induction m with
  | zero =>
    intro i s fuel Lr hL hi hk hf
    obtain ⟨fu, rfl⟩ : ∃ fu, fuel = fu + 1 := ⟨fuel - 1, by omega⟩
    have hL0 : Lr = [] := List.length_eq_zero_iff.mp hL
    subst hL0
    rw [f_L_hopper_L4, cN (n := 13) (by decide), h.1, if_pos (nI_le (by omega) (by omega))]
    rfl
  | succ m ih =>
    intro i s fuel Lr hL hi hk hf
    obtain ⟨fu, rfl⟩ : ∃ fu, fuel = fu + 1 := ⟨fuel - 1, by omega⟩
    match Lr, hL with
    | p :: Lr, hL =>
      simp only [List.length_cons] at hL
      have h1 := hk 0 (by omega)
      rw [lk_0, Nat.add_zero] at h1
      have ih' := ih (i + 1) (s + p.1) fu Lr (by omega) (by omega) (fun k q => by
        have := hk (k + 1) (by omega)
        rw [lk_s] at this
        rw [this, show i + (k + 1) = i + 1 + k by omega]) (by omega)
      rw [f_L_hopper_L4, cN (n := 13) (by decide), h.1, if_neg (nI_ge (by omega) (by omega)), fa_lit 2, pk_mul, nI_1, gd_t (nI_in (by omega) (by decide)), v_cl (by omega), (h.2 i (by omega)).2]
      simp only [lt_v]
      rw [nI_add, nI_1, ← h1, ih']
      simp only [tot, Nat.add_assoc]
theorem L_hopper {L : List (Nat × Nat)} {G A : Nat → Int32} (h : loE L G A) (hb : L.length ≤ 6) : f_L_hopper G A = some (nI (tot L)) := by
  have := L_hopper_L h hb L.length 0 0 FU L rfl (by omega) (fun k _ => by rw [Nat.zero_add]) (by show _ < 20000; omega)
  rw [nI_0, Nat.zero_add] at this
  exact this
/-! seconds pass in the law -/
theorem tmz_s (t m : Nat) : tmz t (m + 1) = (if (t + 1) % 10 = 0 then 1 else 0) + tmz (t + 1) m := by
  unfold tmz
  split <;> omega
theorem tmz_0 (t : Nat) : tmz t 0 = 0 := by unfold tmz; omega
theorem L_pin {r5 : Int32 → Int32 → (Nat → Int32) → (Nat → Int32) → Option (Int32 × (Nat → Int32) × (Nat → Int32))} {y2 y4 : Int32} {fu s b t w : Nat} {G U : Nat → Int32} (hb : b < 2) (h0 : G 0 = nI t) (ht : t < 2 ^ 30) (c : t % 10 = 0) (hw : U (4 * b + 1) = nI w) (hw2 : w ≤ 300) : f_L_pass_L21 r5 y2 y4 (fu + 1) (nI s) (nI (4 * b + 1)) G U = f_L_pass_L21 r5 y2 y4 fu (nI (s + fl w)) (nI (4 * b + 5)) G (upd U (4 * b + 1) (nI (w - fl w))) := by
  have eg : ¬ (nI (4 * b + 1) < 0 ∨ 8 ≤ (nI (4 * b + 1)).toNatClampNeg) := nI_in (by omega) (by decide)
  have ec : (nI (4 * b + 1)).toNatClampNeg = 4 * b + 1 := v_cl (by omega)
  have hJ : ∀ z : Nat, z ≤ w → f_L_pass_J70 r5 (f_L_pass_L21 r5 y2 y4 fu) y2 (nI s) y4 (nI (4 * b + 1)) (nI z) G U = f_L_pass_L21 r5 y2 y4 fu (nI (s + z)) (nI (4 * b + 5)) G (upd U (4 * b + 1) (nI (w - z))) := fun z hz => by
    rw [f_L_pass_J70, gd_t eg]
    simp only [lt_v]
    rw [gd_t eg, ec, hw, pk_sub hz, nI_add, fa_lit 4, nI_add]
  have l := fl_le w
  rw [f_L_pass_L21, fa_lit 8, if_neg (nI_ge (by omega) (by omega)), cN (n := 0) (by decide), h0, fa_lit 10, pk_rem (by omega) (by decide) (by decide), c, if_pos nI_0, gd_t eg, gd_t eg, gd_t eg, ec, hw, fa_lit 16, pk_div (by omega) (by decide) (by decide)]
  by_cases c1 : w / 16 ≤ 1
  · rw [if_pos (show nI (w / 16) ≤ (1 : Int32) from nI_le (b := 1) c1 (by decide))]
    by_cases c2 : w = 0
    · subst c2
      rw [if_pos (by rw [nI_0]; exact Int32.le_refl 0), ← nI_0]
      exact hJ 0 (Nat.le_refl 0)
    · have e : fl w = 1 := by unfold fl; rw [if_neg c2]; split <;> omega
      rw [if_neg (nI_nle (by omega) (by omega)), e]
      exact hJ 1 (by omega)
  · have e : fl w = w / 16 := by unfold fl; rw [if_neg (by omega), if_neg (by omega)]
    rw [if_neg (show ¬ nI (w / 16) ≤ (1 : Int32) from nI_ge (a := 1) (by omega) (by omega)), e]
    exact hJ (w / 16) (by omega)
theorem L_pass_L {n : Nat} (hn : n < 2 ^ 20) : ∀ (m k s t w0 w1 fuel : Nat) (G U : Nat → Int32), k + m = n → m < fuel → G 0 = nI t → U 1 = nI w0 → U 5 = nI w1 → t + m < 2 ^ 30 → w0 ≤ 300 → w1 ≤ 300 →
    ∃ G' U', f_L_pass_L5 (nI n) fuel (nI s) (nI k) G U = some (nI (s + (w0 - cl (tmz t m) w0) + (w1 - cl (tmz t m) w1)), G', U') ∧ G' 0 = nI (t + m) ∧ U' 1 = nI (cl (tmz t m) w0) ∧ U' 5 = nI (cl (tmz t m) w1) ∧ (∀ i, i ≠ 0 → G' i = G i) ∧ ∀ i, i ≠ 1 → i ≠ 5 → U' i = U i := by
  intro m
  induction m with
  | zero =>
    intro k s t w0 w1 fuel G U hk hf h0 h14 h18 ht hw0 hw1
    obtain ⟨fu, rfl⟩ : ∃ fu, fuel = fu + 1 := ⟨fuel - 1, by omega⟩
    rw [f_L_pass_L5, if_pos (nI_le (by omega) (by omega)), tmz_0]
    refine ⟨G, U, ?_, h0, h14, h18, fun i _ => rfl, fun i _ _ => rfl⟩
    show some (nI s, G, U) = some (nI (s + (w0 - w0) + (w1 - w1)), G, U)
    rw [Nat.sub_self, Nat.sub_self]
    rfl
  | succ m ih =>
    intro k s t w0 w1 fuel G U hk hf h0 h14 h18 ht hw0 hw1
    obtain ⟨fu, rfl⟩ : ∃ fu, fuel = fu + 1 := ⟨fuel - 1, by omega⟩
    rw [f_L_pass_L5, if_neg (nI_ge (by omega) (by omega)), cN (n := 0) (by decide), h0]
    simp only [lt_v]
    rw [nI_1]
    have l0 := fl_le w0
    have l1 := fl_le w1
    have hFU : FU = 19997 + 1 + 1 + 1 := rfl
    by_cases c : (t + 1) % 10 = 0
    · have e18 : upd U (4 * 0 + 1) (nI (w0 - fl w0)) (4 * 1 + 1) = nI w1 := (pk_un (by decide)).trans h18
      obtain ⟨G', U', a1, a2, a3, a4, a5, a6⟩ := ih (k + 1) (s + fl w0 + fl w1) (t + 1) (w0 - fl w0) (w1 - fl w1) fu (upd G 0 (nI (t + 1))) (upd (upd U (4 * 0 + 1) (nI (w0 - fl w0))) (4 * 1 + 1) (nI (w1 - fl w1))) (by omega) (by omega) pk_us ((pk_un (by decide)).trans pk_us) pk_us (by omega) (by omega) (by omega)
      have hz : tmz t (m + 1) = tmz (t + 1) m + 1 := by rw [tmz_s, if_pos c]; omega
      have c0 := cl_le (tmz (t + 1) m) (w0 - fl w0)
      have c1 := cl_le (tmz (t + 1) m) (w1 - fl w1)
      refine ⟨G', U', ?_, ?_, ?_, ?_, ?_, ?_⟩
      · rw [hFU]
        have p1 := L_pin (r5 := f_L_pass_L5 (nI n) fu) (y2 := nI n) (y4 := nI k) (fu := 19997 + 1 + 1) (s := s) (b := 0) (G := upd G 0 (nI (t + 1))) (U := U) (by decide) pk_us (by omega) c h14 hw0
        have p2 := L_pin (r5 := f_L_pass_L5 (nI n) fu) (y2 := nI n) (y4 := nI k) (fu := 19997 + 1) (s := s + fl w0) (b := 1) (G := upd G 0 (nI (t + 1))) (by decide) pk_us (by omega) c e18 hw1
        refine p1.trans (p2.trans ?_)
        rw [f_L_pass_L21, if_pos (show (8 : Int32) ≤ nI (4 * 1 + 5) from nI_le (a := 8) (by omega) (by omega)), f_L_pass_J92, lt_v, nI_1, a1, hz]
        refine so_inj (Prod.ext (nI_inj ?_) rfl)
        show _ = s + (w0 - cl (tmz (t + 1) m) (w0 - fl w0)) + (w1 - cl (tmz (t + 1) m) (w1 - fl w1))
        omega
      · rw [a2]; exact nI_inj (by omega)
      · rw [a3, hz]; rfl
      · rw [a4, hz]; rfl
      · intro i i0
        exact (a5 i i0).trans (pk_un i0)
      · intro i i1 i2
        exact (a6 i i1 i2).trans ((pk_un i2).trans (pk_un i1))
    · obtain ⟨G', U', a1, a2, a3, a4, a5, a6⟩ := ih (k + 1) s (t + 1) w0 w1 fu (upd G 0 (nI (t + 1))) U (by omega) (by omega) pk_us h14 h18 (by omega) hw0 hw1
      have hz : tmz t (m + 1) = tmz (t + 1) m := by rw [tmz_s, if_neg c]; omega
      refine ⟨G', U', ?_, ?_, ?_, ?_, ?_, a6⟩
      · rw [hFU, f_L_pass_L21, if_neg (by decide), cN (n := 0) (by decide), pk_us, fa_lit 10, pk_rem (by omega) (by decide) (by decide), if_neg (nI_ne0 (by omega) (by omega)), f_L_pass_J92, lt_v, nI_1, a1, hz]
      · rw [a2]; exact nI_inj (by omega)
      · rw [a3, hz]
      · rw [a4, hz]
      · intro i i0
        exact (a5 i i0).trans (pk_un i0)
theorem L_pass {n t w0 w1 : Nat} {G U : Nat → Int32} (hn : n < 19999) (h0 : G 0 = nI t) (h14 : U 1 = nI w0) (h18 : U 5 = nI w1) (ht : t < 2 ^ 29) (hw0 : w0 ≤ 300) (hw1 : w1 ≤ 300) :
    ∃ G' U', f_L_pass (nI n) G U = some (nI (w0 + w1 - cl (tmz t n) w0 - cl (tmz t n) w1), G', U') ∧ G' 0 = nI (t + n) ∧ U' 1 = nI (cl (tmz t n) w0) ∧ U' 5 = nI (cl (tmz t n) w1) ∧ (∀ i, i ≠ 0 → G' i = G i) ∧ ∀ i, i ≠ 1 → i ≠ 5 → U' i = U i := by
  obtain ⟨G', U', a1, a2⟩ := L_pass_L (n := n) (by omega) n 0 0 t w0 w1 FU G U (by omega) (by show n < 20000; omega) h0 h14 h18 (by omega) hw0 hw1
  have c0 := cl_le (tmz t n) w0
  have c1 := cl_le (tmz t n) w1
  refine ⟨G', U', ?_, a2⟩
  rw [f_L_pass, ← nI_0, a1]
  exact so_inj (Prod.ext (nI_inj (by show 0 + (w0 - _) + (w1 - _) = _; omega)) rfl)
