/-! queries: both sides answer alike -/
theorem v_le {x : Int32} {n : Nat} (h1 : ¬ x < 0) (h2 : ¬ nI n < x) : ∃ j : Nat, j ≤ n ∧ x = nI j := by
  obtain ⟨j, hj, rfl⟩ := nI_of h1
  exact ⟨j, Nat.not_lt.mp (fun q => h2 (nI_lt q hj)), rfl⟩
theorem rg_t {β : Type} {x n : Int32} {a b : β} (h : x < 0 ∨ n < x) : (if x < 0 then a else if x ≤ n then b else a) = a := by
  by_cases c : x < 0
  · rw [if_pos c]
  · rw [if_neg c, if_neg (Int32.not_le.mpr (by rcases h with h | h; exact absurd h c; exact h))]
theorem rg_f {β : Type} {x n : Int32} {a b : β} (h : ¬ (x < 0 ∨ n < x)) : (if x < 0 then a else if x ≤ n then b else a) = b := by
  rw [if_neg (fun q => h (Or.inl q)), if_pos (Int32.not_lt.mp (fun q => h (Or.inr q)))]
theorem n10 : ¬ (1 : Int32) = 0 := by decide
/-- what a burr tells -/
def tlB (b : Bu) (j : Nat) : Int32 := if j = 0 then nI b.1 else if j = 1 then nI b.2.1 else if j = 2 then nI (gp b.1 b.2.1) else if j = 3 then b.2.2.1 else b.2.2.2
theorem p_tellB {b : Bu} {d w g c : Int32} (h : buR b d w g c) (k : buK b) {j : Nat} (hj : j ≤ 4) : f_X0_tell (nI j) d w g c = some (tlB b j) := by
  obtain ⟨rfl, rfl, rfl, rfl⟩ := h
  rcases (show j = 0 ∨ j = 1 ∨ j = 2 ∨ j = 3 ∨ j = 4 by omega) with rfl | rfl | rfl | rfl | rfl
  · rfl
  · rfl
  · have e := p_gap (d := b.1) (w := b.2.1) (by have := k.2.1; omega) (by have := k.2.2; omega)
    rw [f_X0_tell, if_neg (by decide), if_neg (by decide), if_pos (by decide), e]
    rfl
  · rfl
  · rfl
theorem r_tellB {b : Nat} {x : Bu} {S : Nat → Int32} (hb : b < 2) (h : buM (13 + 4 * b) x S) (k : buK x) {j : Nat} (hj : j ≤ 4) : (if nI j = (2 : Int32) then (f_X8_gap (nI b) S).bind fun q7 => some q7 else (if (2 : Int32) ≤ nI j then f_X8_burrOf_J46 S (nI j - (1 : Int32)) (nI b) else f_X8_burrOf_J46 S (nI j) (nI b))) = some (tlB x j) := by
  rcases (show j = 0 ∨ j = 1 ∨ j = 2 ∨ j = 3 ∨ j = 4 by omega) with rfl | rfl | rfl | rfl | rfl
  · rw [if_neg (by decide), if_neg (by decide), f_X8_burrOf_J46, r_ofBurr hb (by decide), Option.bind_some, Nat.add_zero, h.1]
    rfl
  · rw [if_neg (by decide), if_neg (by decide), f_X8_burrOf_J46, r_ofBurr hb (by decide), Option.bind_some, h.2.1]
    rfl
  · rw [if_pos (by decide), r_gap hb h k]
    rfl
  · rw [if_neg (by decide), if_pos (by decide), show nI 3 - (1 : Int32) = nI 2 from nI_pred 2, f_X8_burrOf_J46, r_ofBurr hb (by decide), Option.bind_some, h.2.2.1]
    rfl
  · rw [if_neg (by decide), if_pos (by decide), show nI 4 - (1 : Int32) = nI 3 from nI_pred 3, f_X8_burrOf_J46, r_ofBurr hb (by decide), Option.bind_some, h.2.2.2]
    rfl
theorem q_burrOf {σ : Sp} {B nw : Nat} {S : Nat → Int32} {d0 w0 g0 c0 d1 w1 g1 c1 : Int32} (h0 : buR (v_b0 σ) d0 w0 g0 c0) (h1 : buR (v_b1 σ) d1 w1 g1 c1) (hm : MR σ S) (hk : KK σ B) (x1 x2 : Int32) : ∃ r, f_X7_burrOf x1 x2 nw d0 w0 g0 c0 d1 w1 g1 c1 = some r ∧ f_X8_burrOf x1 x2 S = some r := by
  have k11 := hk.2.2.2.2.2.2.2.2.2.2.1
  have k12 := hk.2.2.2.2.2.2.2.2.2.2.2.1
  rw [f_X7_burrOf, f_X8_burrOf, r_isOne]
  by_cases c1 : x1 = 0 ∨ x1 = 1
  · obtain ⟨b, hb, rfl⟩ := v01 c1
    rw [is01_t hb, if_pos c1, Option.bind_some, Option.bind_some, if_neg n10, if_neg n10, r_in, Option.bind_some]
    by_cases c2 : x2 < 0 ∨ (4 : Int32) < x2
    · rw [rg_t c2, if_pos c2, if_pos rfl]
      exact ⟨_, rfl, rfl⟩
    · rw [rg_f c2, if_neg c2, if_neg n10]
      obtain ⟨j, hj, rfl⟩ := v_le (n := 4) (fun q => c2 (Or.inl q)) (fun q => c2 (Or.inr q))
      rw [r_tellB hb (bs_M hm hb) (bsel_K b k11 k12) hj]
      refine ⟨_, ?_, rfl⟩
      rcases (show b = 0 ∨ b = 1 by omega) with rfl | rfl
      · rw [if_pos nI_0, p_tellB h0 k11 hj]; rfl
      · rw [if_neg (show ¬ nI 1 = 0 by decide), p_tellB h1 k12 hj]; rfl
  · rw [is01_f c1, if_neg c1, Option.bind_some, Option.bind_some, if_pos rfl, if_pos rfl]
    exact ⟨_, rfl, rfl⟩
theorem q_lotOf {σ : Sp} {B nw : Nat} {S pA pM : Nat → Int32} {pn pt : Int32} (h : rowR (v_lo σ) pA pM pn pt) (hm : MR σ S) (hk : KK σ B) (x1 x2 : Int32) : ∃ r, f_X7_lotOf x1 x2 nw pA pM pn = some r ∧ f_X8_lotOf x1 x2 S = some r := by
  have k4 := hk.2.2.2.1
  rw [f_X7_lotOf, f_X8_lotOf, r_isOne]
  by_cases c0 : x1 < 0
  · rw [if_pos c0, if_pos c0]
    exact ⟨_, rfl, rfl⟩
  · rw [if_neg c0, if_neg c0, Option.bind_some]
    obtain ⟨k, hkk, rfl⟩ := nI_of c0
    by_cases c2 : x2 = 0 ∨ x2 = 1
    · rw [rg_f (fun q => in01.mp q c2), if_pos c2, if_neg n10, f_X3_tell, if_neg c0, c21, hm.1.1, h.1]
      by_cases c3 : k < (v_lo σ).length
      · have hl := hm.1.2 k c3
        have e1 := p_amountAt (N := 6) h k4 (by decide) c3
        have e2 := p_markAt (N := 6) h k4 (by decide) c3
        rw [h.1] at e1 e2
        rw [if_pos (nI_lt c3 (by omega)), if_pos (nI_lt c3 (by omega)), e1, e2, Option.bind_some, Option.bind_some]
        rcases c2 with rfl | rfl
        · have ei : (22 : Int32) + (2 : Int32) * nI k + (0 : Int32) = nI (22 + 2 * k) := by rw [fa_lit 22, fa_lit 2, fa_lit 0, pk_mul, nI_add, nI_add, Nat.add_zero]
          rw [if_pos rfl, ei, gd_t (nI_in (by omega) (by decide)), v_cl (by omega), hl.1]
          exact ⟨_, rfl, rfl⟩
        · have ei : (22 : Int32) + (2 : Int32) * nI k + (1 : Int32) = nI (22 + 2 * k + 1) := by rw [fa_lit 22, fa_lit 2, fa_lit 1, pk_mul, nI_add, nI_add]
          rw [if_neg n10, ei, gd_t (nI_in (by omega) (by decide)), v_cl (by omega), hl.2]
          exact ⟨_, rfl, rfl⟩
      · rw [if_neg (nI_nlt (by omega) hkk), if_neg (nI_nlt (by omega) hkk)]
        exact ⟨_, rfl, rfl⟩
    · rw [rg_t (in01.mpr c2), if_neg c2, if_pos rfl]
      exact ⟨_, rfl, rfl⟩
/-- what is told of a portion -/
def tlP (v : Nat → Nat) (p : Nat × Nat) (j : Nat) : Int32 := if j = 0 then nI p.1 else if j = 1 then nI (p.2 % 2) else if j = 2 then nI (p.2 / 2 % 2) else if j = 3 then nI (p.2 / 4) else nI (flm v p.2)
theorem p_tellP {v : Nat → Nat} {st : Nat → Int32} {p : Nat × Nat} (hs : stR v st) (hv : stK v) (h : p.2 < 4096) {j : Nat} (hj : j ≤ 4) (a : Option Int32) (ha : a = some (nI p.1)) : (if nI j = 0 then a.bind (fun q4 => some q4) else (if nI j = 1 then (f_X7_kindOfMark (nI p.2)).bind fun q6 => some q6 else (if nI j = 2 then (f_X7_burrOfMark (nI p.2)).bind fun q8 => some q8 else (if nI j = 3 then (f_X7_gapOfMark (nI p.2)).bind fun q10 => some q10 else (f_X1_flowOfMark (nI p.2) st).bind fun q11 => some q11)))) = some (tlP v p j) := by
  have e1 := p_kindOf p.2
  have e2 := p_burrOf (m := p.2) (by omega)
  have e3 := p_gapOf (m := p.2) (by omega)
  have e4 := p_flowOfMark hs hv (m := p.2) (by omega)
  rw [e1, e2, e3, e4, ha]
  rcases (show j = 0 ∨ j = 1 ∨ j = 2 ∨ j = 3 ∨ j = 4 by omega) with rfl | rfl | rfl | rfl | rfl
  · rw [if_pos nI_0]; rfl
  · rw [if_neg (by decide), if_pos (by decide)]; rfl
  · rw [if_neg (by decide), if_neg (by decide), if_pos (by decide)]; rfl
  · rw [if_neg (by decide), if_neg (by decide), if_neg (by decide), if_pos (by decide)]; rfl
  · rw [if_neg (by decide), if_neg (by decide), if_neg (by decide), if_neg (by decide)]; rfl
theorem r_J63 {v : Nat → Nat} {S : Nat → Int32} {L : List (Nat × Nat)} {z k j : Nat} (h : rwM z L S) (hs : stM v S) (hv : stK v) (hok : okP L) (hmk : mkK L) (hk : k < L.length) (hz : z + 1 + L.length ≤ 631) (hj : j ≤ 4) : f_X8_portionOf_J63 S (nI k) (nI j) (nI (z + 1)) = some (tlP v (lk L k) j) := by
  have hp := hok (lk L k) (lk_m hk)
  have hq := hmk (lk L k) (lk_m hk)
  have e0 := r_amountOf hp.2.1 hp.2.2
  have e1 := r_kindOf hp.2.1 hp.2.2
  have e2 := r_burrIn hp.2.1 hp.2.2
  have e3 := r_gapOf hp.2.1 hp.2.2
  have e4 := r_flowOf hs hv hp.2.1 hq.1 hq.2
  rw [f_X8_portionOf_J63, nI_add, gd_t (nI_in (by omega) (by decide)), v_cl (by omega), h.2 k hk, lt_v, e0, e1, e2, e3, e4]
  rcases (show j = 0 ∨ j = 1 ∨ j = 2 ∨ j = 3 ∨ j = 4 by omega) with rfl | rfl | rfl | rfl | rfl
  · rw [if_pos nI_0]; rfl
  · rw [if_neg (by decide), if_pos (by decide)]; rfl
  · rw [if_neg (by decide), if_neg (by decide), if_pos (by decide)]; rfl
  · rw [if_neg (by decide), if_neg (by decide), if_neg (by decide), if_pos (by decide)]; rfl
  · rw [if_neg (by decide), if_neg (by decide), if_neg (by decide), if_neg (by decide)]; rfl
theorem q_portionOf {σ : Sp} {B nw : Nat} {S qA qM uA uM st : Nat → Int32} {qn qt un ut : Int32} (hq : rowR (v_ch σ) qA qM qn qt) (hu : rowR (v_ba σ) uA uM un ut) (hs : stR (v_st σ) st) (hm : MR σ S) (hk : KK σ B) (x1 x2 x3 : Int32) : ∃ r, f_X7_portionOf x1 x2 x3 nw qA qM qn uA uM un st = some r ∧ f_X8_portionOf x1 x2 x3 S = some r := by
  obtain ⟨m1, m2, m3, m4, m5, m6, m7, m8, m9, m10, m11, m12, m13, m14⟩ := hm
  obtain ⟨k1, k2, k3, k4, k5, k6, k7, k8, k9, k10, k11, k12, k13, k14⟩ := hk
  have l1 := len_tot k5
  have l2 := len_tot k8
  rw [f_X7_portionOf, f_X8_portionOf, r_isOne]
  by_cases c1 : x1 = 0 ∨ x1 = 1
  · obtain ⟨b, hb, rfl⟩ := v01 c1
    rw [is01_t hb, if_pos c1, Option.bind_some, Option.bind_some, if_neg n10, if_neg n10]
    by_cases c2 : x2 < 0
    · rw [if_pos c2, if_pos c2]
      exact ⟨_, rfl, rfl⟩
    · rw [if_neg c2, if_neg c2, r_in, Option.bind_some]
      obtain ⟨k, hkk, rfl⟩ := nI_of c2
      by_cases c3 : x3 < 0 ∨ (4 : Int32) < x3
      · rw [rg_t c3, if_pos c3, if_pos rfl]
        exact ⟨_, rfl, rfl⟩
      · rw [rg_f c3, if_neg c3, if_neg n10]
        obtain ⟨j, hj, rfl⟩ := v_le (n := 4) (fun q => c3 (Or.inl q)) (fun q => c3 (Or.inr q))
        rcases (show b = 0 ∨ b = 1 by omega) with rfl | rfl
        · rw [if_pos nI_0, if_pos nI_0, f_X7_portionOf_J48a, f_X1_tellPortion_q, f_X8_portionOf_J40, gd_t (by decide), show S (34 : Int32).toNatClampNeg = nI (v_ch σ).length from m4.1, hq.1]
          by_cases c4 : k < (v_ch σ).length
          · have e1 := p_amountAt (N := 106) hq (by omega) (by decide) c4
            have e2 := p_markAt (N := 106) hq (by omega) (by decide) c4
            rw [hq.1] at e1 e2
            rw [if_pos (nI_lt c4 (by omega)), if_pos (nI_lt c4 (by omega)), e2, Option.bind_some, p_tellP hs k13 (k5 _ (lk_m c4)).2.2 hj _ e1, if_pos nI_0]
            exact ⟨_, rfl, r_J63 (z := 34) m4 m8 k13 (okP_of k5 (by omega)) k6 c4 (by omega) hj⟩
          · rw [if_neg (nI_nlt (by omega) hkk), if_neg (nI_nlt (by omega) hkk)]
            exact ⟨_, rfl, rfl⟩
        · have n1 : ¬ nI 1 = (0 : Int32) := by decide
          rw [if_neg n1, if_neg n1, f_X7_portionOf_J48, f_X1_tellPortion_u, f_X8_portionOf_J40, gd_t (by decide), show S (145 : Int32).toNatClampNeg = nI (v_ba σ).length from m5.1, hu.1]
          by_cases c4 : k < (v_ba σ).length
          · have e1 := p_amountAt (N := 400) hu (by omega) (by decide) c4
            have e2 := p_markAt (N := 400) hu (by omega) (by decide) c4
            rw [hu.1] at e1 e2
            rw [if_pos (nI_lt c4 (by omega)), if_pos (nI_lt c4 (by omega)), e2, Option.bind_some, p_tellP hs k13 (k8 _ (lk_m c4)).2.2 hj _ e1, if_neg n1]
            exact ⟨_, rfl, r_J63 (z := 145) m5 m8 k13 (okP_of k8 (by omega)) k9 c4 (by omega) hj⟩
          · rw [if_neg (nI_nlt (by omega) hkk), if_neg (nI_nlt (by omega) hkk)]
            exact ⟨_, rfl, rfl⟩
  · rw [is01_f c1, if_neg c1, Option.bind_some, Option.bind_some, if_pos rfl, if_pos rfl]
    exact ⟨_, rfl, rfl⟩
theorem q_shotOf {σ : Sp} {B nw : Nat} {S sF st : Nat → Int32} {sk : Int32} (hK : shR (v_K σ) sF sk) (hs : stR (v_st σ) st) (hm : MR σ S) (hk : KK σ B) (x1 x2 : Int32) : ∃ r, f_X7_shotOf x1 x2 nw sF sk st = some r ∧ f_X8_shotOf x1 x2 S = some r := by
  obtain ⟨m1, m2, m3, m4, m5, m6, m7, m8, m9, m10, m11, m12, m13, m14⟩ := hm
  have k13 := hk.2.2.2.2.2.2.2.2.2.2.2.2.1
  have h12 := m6.2.1
  rw [f_X7_shotOf, f_X8_shotOf]
  by_cases c1 : x1 < 0
  · rw [if_pos c1, if_pos c1]
    exact ⟨_, rfl, rfl⟩
  · rw [if_neg c1, if_neg c1, r_in, Option.bind_some]
    obtain ⟨k, hkk, rfl⟩ := nI_of c1
    by_cases c2 : x2 < 0 ∨ (7 : Int32) < x2
    · rw [rg_t c2, if_pos c2, if_pos rfl]
      exact ⟨_, rfl, rfl⟩
    · rw [rg_f c2, if_neg c2, if_neg n10]
      obtain ⟨j, hj, rfl⟩ := v_le (n := 7) (fun q => c2 (Or.inl q)) (fun q => c2 (Or.inr q))
      have e0 : st (0 : Int32).toNatClampNeg = nI (v_st σ 0) := hs 0 (by decide)
      rw [e0, p_tellShot hK k13.2.1 hkk (by omega), show S (546 : Int32).toNatClampNeg = nI (v_K σ).length from m6.1, Option.bind_some]
      by_cases c3 : k < (v_K σ).length
      · rw [if_pos c3, if_pos (nI_lt c3 (by omega)), lt_v, fa_lit 547, fa_lit 7, pk_mul, nI_add]
        obtain ⟨g1, g2, g3, g4, g5, g6, g7⟩ := m6.2.2.2 k c3
        have ht := m6.2.2.1 k c3
        have key : ∀ w : Nat, w ≤ 6 → f_X8_shotOf_J78 S (nI w) (nI (547 + 7 * k)) = some (S (547 + 7 * k + w)) := fun w hw => by
          rw [f_X8_shotOf_J78, nI_add, gd_t (nI_in (by omega) (by decide)), v_cl (by omega)]
        refine ⟨_, rfl, ?_⟩
        rcases (show j = 0 ∨ j = 1 ∨ j = 2 ∨ j = 3 ∨ j = 4 ∨ j = 5 ∨ j = 6 ∨ j = 7 by omega) with rfl | rfl | rfl | rfl | rfl | rfl | rfl | rfl
        · rw [if_neg (by decide), if_neg (by decide), key 0 (by decide), Nat.add_zero, g1]; rfl
        · rw [if_neg (by decide), if_neg (by decide), key 1 (by decide), g2]; rfl
        · rw [if_neg (by decide), if_neg (by decide), key 2 (by decide), g3]; rfl
        · rw [if_neg (by decide), if_neg (by decide), key 3 (by decide), g4]; rfl
        · rw [if_neg (by decide), if_neg (by decide), key 4 (by decide), g5]; rfl
        · rw [if_pos (by decide), nI_1, gd_t (nI_in (by omega) (by decide)), v_cl (by omega), g2, r_away (m8 0 (by decide)) (by omega) (by have := k13.2.1; omega)]
          rfl
        · rw [if_neg (by decide), if_pos (by decide), show nI 6 - (1 : Int32) = nI 5 from nI_pred 5, key 5 (by decide), g6]; rfl
        · rw [if_neg (by decide), if_pos (by decide), show nI 7 - (1 : Int32) = nI 6 from nI_pred 6, key 6 (by decide), g7]; rfl
      · rw [if_neg c3, if_neg (nI_nlt (by omega) hkk)]
        exact ⟨_, rfl, rfl⟩
