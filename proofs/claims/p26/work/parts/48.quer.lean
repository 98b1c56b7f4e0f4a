/-! the object's answers and changes out of its state -/
theorem v_le {x : Int32} {n : Nat} (h1 : ¬ x < 0) (h2 : ¬ nI n < x) : ∃ j : Nat, j ≤ n ∧ x = nI j := by
  obtain ⟨j, hj, rfl⟩ := nI_of h1
  exact ⟨j, Nat.not_lt.mp (fun q => h2 (nI_lt q hj)), rfl⟩
theorem rg_t {β : Type} {x n : Int32} {a b : β} (h : x < 0 ∨ n < x) : (if x < 0 then a else if x ≤ n then b else a) = a := by
  by_cases c : x < 0
  · rw [if_pos c]
  · rw [if_neg c, if_neg (Int32.not_le.mpr (by rcases h with h | h; exact absurd h c; exact h))]
theorem rg_f {β : Type} {x n : Int32} {a b : β} (h : ¬ (x < 0 ∨ n < x)) : (if x < 0 then a else if x ≤ n then b else a) = b := by
  rw [if_neg (fun q => h (Or.inl q)), if_pos (Int32.not_lt.mp (fun q => h (Or.inr q)))]
theorem n10 : ¬ (1 : Int32) = 0 := by decide
/-- what a burr tells -/
def tlB (b : Bu) (j : Nat) : Int32 := if j = 0 then nI b.1 else if j = 1 then nI b.2.1 else if j = 2 then nI (gp b.1 b.2.1) else if j = 3 then b.2.2.1 else b.2.2.2
theorem p_tellB {b : Bu} {d w g c : Int32} (h : buR b d w g c) (k : buK b) {j : Nat} (hj : j ≤ 4) : f_X0_tell (nI j) d w g c = some (tlB b j) := by
  obtain ⟨rfl, rfl, rfl, rfl⟩ := h
  rcases (show j = 0 ∨ j = 1 ∨ j = 2 ∨ j = 3 ∨ j = 4 by omega) with rfl | rfl | rfl | rfl | rfl
  · rfl
  · rfl
  · have e := p_gap (d := b.1) (w := b.2.1) (by have := k.2.1; omega) (by have := k.2.2; omega)
    rw [f_X0_tell, if_neg (by decide), if_neg (by decide), if_pos (by decide), e]
    rfl
  · rfl
  · rfl
def A_burrOf (x1 x2 : Int32) (σ : Sp) : Int32 := if x1 = 0 ∨ x1 = 1 then (if x2 < 0 ∨ (4 : Int32) < x2 then cIA else tlB (if x1 = 0 then v_b0 σ else v_b1 σ) (nx x2)) else cIA
theorem p_burrOf' {σ : Sp} {B nw : Nat} {d0 w0 g0 c0 d1 w1 g1 c1 : Int32} (h0 : buR (v_b0 σ) d0 w0 g0 c0) (h1 : buR (v_b1 σ) d1 w1 g1 c1) (hk : KK σ B) (x1 x2 : Int32) : f_X7_burrOf x1 x2 nw d0 w0 g0 c0 d1 w1 g1 c1 = some (A_burrOf x1 x2 σ) := by
  have k11 := hk.2.2.2.2.2.2.2.2.2.2.1
  have k12 := hk.2.2.2.2.2.2.2.2.2.2.2.1
  rw [f_X7_burrOf, A_burrOf]
  by_cases c1 : x1 = 0 ∨ x1 = 1
  · rw [if_pos c1]
    obtain ⟨b, hb, rfl⟩ := v01 c1
    rw [is01_t hb, Option.bind_some, if_neg n10]
    by_cases c2 : x2 < 0 ∨ (4 : Int32) < x2
    · rw [rg_t c2, if_pos c2]
    · rw [rg_f c2, if_neg c2]
      obtain ⟨j, hj, rfl⟩ := v_le (n := 4) (fun q => c2 (Or.inl q)) (fun q => c2 (Or.inr q))
      rw [show nx (nI j) = j from v_cl (by omega)]
      rcases (show b = 0 ∨ b = 1 by omega) with rfl | rfl
      · rw [if_pos nI_0, if_pos nI_0, p_tellB h0 k11 hj]; rfl
      · rw [if_neg (show ¬ nI 1 = 0 by decide), if_neg (show ¬ nI 1 = 0 by decide), p_tellB h1 k12 hj]; rfl
  · rw [is01_f c1, if_neg c1, Option.bind_some, if_pos rfl]
def A_lotOf (x1 x2 : Int32) (σ : Sp) : Int32 := if x1 < 0 then cIA else if x2 < 0 ∨ (1 : Int32) < x2 then cIA else if nx x1 < (v_lo σ).length then (if x2 = 0 then nI (lk (v_lo σ) (nx x1)).2 else nI (lk (v_lo σ) (nx x1)).1) else cNF
theorem p_lotOf' {σ : Sp} {B nw : Nat} {pA pM : Nat → Int32} {pn pt : Int32} (h : rowR (v_lo σ) pA pM pn pt) (hk : KK σ B) (x1 x2 : Int32) : f_X7_lotOf x1 x2 nw pA pM pn = some (A_lotOf x1 x2 σ) := by
  have k4 := hk.2.2.2.1
  rw [f_X7_lotOf, A_lotOf]
  by_cases c0 : x1 < 0
  · rw [if_pos c0, if_pos c0]
  · rw [if_neg c0, if_neg c0]
    obtain ⟨k, hkk, rfl⟩ := nI_of c0
    rw [show nx (nI k) = k from v_cl hkk]
    by_cases c2 : x2 < 0 ∨ (1 : Int32) < x2
    · rw [rg_t c2, if_pos c2]
    · rw [rg_f c2, if_neg c2, f_X3_tell, if_neg c0, h.1]
      by_cases c3 : k < (v_lo σ).length
      · have e1 := p_amountAt (N := 6) h k4 (by decide) c3
        have e2 := p_markAt (N := 6) h k4 (by decide) c3
        rw [h.1] at e1 e2
        rw [if_pos (nI_lt c3 (by omega)), if_pos c3, e1, e2, Option.bind_some, Option.bind_some]
        by_cases c4 : x2 = 0
        · rw [if_pos c4, if_pos c4]; rfl
        · rw [if_neg c4, if_neg c4]; rfl
      · rw [if_neg (nI_nlt (by omega) hkk), if_neg c3]; rfl
/-- what is told of a portion -/
def tlP (v : Nat → Nat) (p : Nat × Nat) (j : Nat) : Int32 := if j = 0 then nI p.1 else if j = 1 then nI (p.2 % 2) else if j = 2 then nI (p.2 / 2 % 2) else if j = 3 then nI (p.2 / 4) else nI (flm v p.2)
theorem p_tellP {v : Nat → Nat} {st : Nat → Int32} {p : Nat × Nat} (hs : stR v st) (hv : stK v) (h : p.2 < 4096) {j : Nat} (hj : j ≤ 4) (a : Option Int32) (ha : a = some (nI p.1)) : (if nI j = 0 then a.bind (fun q4 => some q4) else (if nI j = 1 then (f_X7_kindOfMark (nI p.2)).bind fun q6 => some q6 else (if nI j = 2 then (f_X7_burrOfMark (nI p.2)).bind fun q8 => some q8 else (if nI j = 3 then (f_X7_gapOfMark (nI p.2)).bind fun q10 => some q10 else (f_X1_flowOfMark (nI p.2) st).bind fun q11 => some q11)))) = some (tlP v p j) := by
  have e1 := p_kindOf p.2
  have e2 := p_burrOf (m := p.2) (by omega)
  have e3 := p_gapOf (m := p.2) (by omega)
  have e4 := p_flowOfMark hs hv (m := p.2) (by omega)
  rw [e1, e2, e3, e4, ha]
  rcases (show j = 0 ∨ j = 1 ∨ j = 2 ∨ j = 3 ∨ j = 4 by omega) with rfl | rfl | rfl | rfl | rfl
  · rw [if_pos nI_0]; rfl
  · rw [if_neg (by decide), if_pos (by decide)]; rfl
  · rw [if_neg (by decide), if_neg (by decide), if_pos (by decide)]; rfl
  · rw [if_neg (by decide), if_neg (by decide), if_neg (by decide), if_pos (by decide)]; rfl
  · rw [if_neg (by decide), if_neg (by decide), if_neg (by decide), if_neg (by decide)]; rfl
def A_portionOf (x1 x2 x3 : Int32) (σ : Sp) : Int32 := if x1 = 0 ∨ x1 = 1 then (if x2 < 0 then cIA else if x3 < 0 ∨ (4 : Int32) < x3 then cIA else if nx x2 < (if x1 = 0 then v_ch σ else v_ba σ).length then tlP (v_st σ) (lk (if x1 = 0 then v_ch σ else v_ba σ) (nx x2)) (nx x3) else cNF) else cIA
theorem p_portionOf' {σ : Sp} {B nw : Nat} {qA qM uA uM st : Nat → Int32} {qn qt un ut : Int32} (hq : rowR (v_ch σ) qA qM qn qt) (hu : rowR (v_ba σ) uA uM un ut) (hs : stR (v_st σ) st) (hk : KK σ B) (x1 x2 x3 : Int32) : f_X7_portionOf x1 x2 x3 nw qA qM qn uA uM un st = some (A_portionOf x1 x2 x3 σ) := by
  obtain ⟨k1, k2, k3, k4, k5, k6, k7, k8, k9, k10, k11, k12, k13, k14⟩ := hk
  have l1 := len_tot k5
  have l2 := len_tot k8
  rw [f_X7_portionOf, A_portionOf]
  by_cases c1 : x1 = 0 ∨ x1 = 1
  · rw [if_pos c1]
    obtain ⟨b, hb, rfl⟩ := v01 c1
    rw [is01_t hb, Option.bind_some, if_neg n10]
    by_cases c2 : x2 < 0
    · rw [if_pos c2, if_pos c2]
    · rw [if_neg c2, if_neg c2]
      obtain ⟨k, hkk, rfl⟩ := nI_of c2
      rw [show nx (nI k) = k from v_cl hkk]
      by_cases c3 : x3 < 0 ∨ (4 : Int32) < x3
      · rw [rg_t c3, if_pos c3]
      · rw [rg_f c3, if_neg c3]
        obtain ⟨j, hj, rfl⟩ := v_le (n := 4) (fun q => c3 (Or.inl q)) (fun q => c3 (Or.inr q))
        rw [show nx (nI j) = j from v_cl (by omega)]
        rcases (show b = 0 ∨ b = 1 by omega) with rfl | rfl
        · simp only [if_pos nI_0]
          rw [f_X7_portionOf_J48a, f_X1_tellPortion_q, hq.1]
          by_cases c4 : k < (v_ch σ).length
          · have e1 := p_amountAt (N := 106) hq (by omega) (by decide) c4
            have e2 := p_markAt (N := 106) hq (by omega) (by decide) c4
            rw [hq.1] at e1 e2
            rw [if_pos (nI_lt c4 (by omega)), if_pos c4, e2, Option.bind_some, p_tellP hs k13 (k5 _ (lk_m c4)).2.2 hj _ e1]
            rfl
          · rw [if_neg (nI_nlt (by omega) hkk), if_neg c4]
            rfl
        · have n1 : ¬ nI 1 = (0 : Int32) := by decide
          simp only [if_neg n1]
          rw [f_X7_portionOf_J48, f_X1_tellPortion_u, hu.1]
          by_cases c4 : k < (v_ba σ).length
          · have e1 := p_amountAt (N := 400) hu (by omega) (by decide) c4
            have e2 := p_markAt (N := 400) hu (by omega) (by decide) c4
            rw [hu.1] at e1 e2
            rw [if_pos (nI_lt c4 (by omega)), if_pos c4, e2, Option.bind_some, p_tellP hs k13 (k8 _ (lk_m c4)).2.2 hj _ e1]
            rfl
          · rw [if_neg (nI_nlt (by omega) hkk), if_neg c4]
            rfl
  · rw [is01_f c1, if_neg c1, Option.bind_some, if_pos rfl]
def A_shotOf (x1 x2 : Int32) (σ : Sp) : Int32 := if x1 < 0 then cIA else if x2 < 0 ∨ (7 : Int32) < x2 then cIA else if nx x1 < (v_K σ).length then shOf (sk0 (v_K σ) (nx x1)) (v_st σ 0) (nx x2) else cNF
theorem p_shotOf' {σ : Sp} {B nw : Nat} {sF st : Nat → Int32} {sk : Int32} (hK : shR (v_K σ) sF sk) (hs : stR (v_st σ) st) (hk : KK σ B) (x1 x2 : Int32) : f_X7_shotOf x1 x2 nw sF sk st = some (A_shotOf x1 x2 σ) := by
  have k13 := hk.2.2.2.2.2.2.2.2.2.2.2.2.1
  rw [f_X7_shotOf, A_shotOf]
  by_cases c1 : x1 < 0
  · rw [if_pos c1, if_pos c1]
  · rw [if_neg c1, if_neg c1]
    obtain ⟨k, hkk, rfl⟩ := nI_of c1
    rw [show nx (nI k) = k from v_cl hkk]
    by_cases c2 : x2 < 0 ∨ (7 : Int32) < x2
    · rw [rg_t c2, if_pos c2]
    · rw [rg_f c2, if_neg c2]
      obtain ⟨j, hj, rfl⟩ := v_le (n := 7) (fun q => c2 (Or.inl q)) (fun q => c2 (Or.inr q))
      have e0 : st (0 : Int32).toNatClampNeg = nI (v_st σ 0) := hs 0 (by decide)
      rw [e0, p_tellShot hK k13.2.1 hkk (by omega), Option.bind_some, show nx (nI j) = j from v_cl (by omega)]
def A_count (x1 : Int32) (σ : Sp) : Int32 := if x1 = 0 then nI (v_se σ) else if x1 = 1 then v_fi σ else if x1 = 2 then v_gr σ else if x1 = 3 then v_br σ else if x1 = 4 then v_pu σ else if x1 = 5 then nI (tot (v_lo σ)) else if x1 = 6 then nI (tot (v_ch σ)) else if x1 = 7 then nI (tot (v_ba σ)) else if x1 = 8 then v_mk σ else if x1 = 9 then v_nr σ else if x1 = 11 then 0 else if x1 < 20 then cIA else if nx x1 < 26 then nI (v_st σ (nx x1 - 20)) else cIA
theorem p_count' {σ : Sp} {nw : Nat} {yn pt qt ut sm se fi gr br pu nr : Int32} {st : Nat → Int32} (hpt : pt = nI (tot (v_lo σ))) (hqt : qt = nI (tot (v_ch σ))) (hut : ut = nI (tot (v_ba σ))) (hsm : sm = v_mk σ) (hst : stR (v_st σ) st) (hse : se = nI (v_se σ)) (hfi : fi = v_fi σ) (hgr : gr = v_gr σ) (hbr : br = v_br σ) (hpu : pu = v_pu σ) (hnr : nr = v_nr σ) (x1 : Int32) (c10 : ¬ x1 = 10) : f_X7_count x1 nw yn 0 pt qt ut sm st se fi gr br pu nr = some (A_count x1 σ) := by
  subst hpt hqt hut hsm hse hfi hgr hbr hpu hnr
  rw [f_X7_count, f_X1_tell, if_neg c10, A_count]
  by_cases c0 : x1 = 0
  · subst c0; rfl
  by_cases c1 : x1 = 1
  · subst c1; rfl
  by_cases c2 : x1 = 2
  · subst c2; rfl
  by_cases c3 : x1 = 3
  · subst c3; rfl
  by_cases c4 : x1 = 4
  · subst c4; rfl
  by_cases c5 : x1 = 5
  · subst c5; rfl
  by_cases c6 : x1 = 6
  · subst c6; rfl
  by_cases c7 : x1 = 7
  · subst c7; rfl
  by_cases c8 : x1 = 8
  · subst c8; rfl
  by_cases c9 : x1 = 9
  · subst c9; rfl
  by_cases c11 : x1 = 11
  · subst c11; rfl
  rw [if_neg c11, if_neg c0, if_neg c1, if_neg c2, if_neg c3, if_neg c4, if_neg c5, if_neg c6, if_neg c7, if_neg c8, if_neg c9, if_neg c0, if_neg c1, if_neg c2, if_neg c3, if_neg c4, if_neg c5, if_neg c6, if_neg c7, if_neg c8, if_neg c9, if_neg c11, f_X1_tellSetting]
  by_cases d1 : x1 < (20 : Int32)
  · rw [if_pos d1, if_pos d1]; rfl
  · have h0 : ¬ x1 < 0 := fun q => d1 (by
      rw [Int32.lt_iff_toInt_lt] at q ⊢
      rw [Int32.toInt_zero] at q
      rw [fa_lit 20, nI_toInt (by decide)]
      omega)
    obtain ⟨j, hj, rfl⟩ := nI_of h0
    have hj1 : 20 ≤ j := Nat.not_lt.mp (fun q => d1 (nI_lt (b := 20) q (by decide)))
    rw [if_neg d1, if_neg d1, show (20 : Int32) + (6 : Int32) = nI 26 from rfl, show nx (nI j) = j from v_cl hj]
    by_cases d2 : j < 26
    · have hi : j - 20 < 6 := by omega
      rw [if_pos (nI_lt d2 (by decide)), if_pos d2, fa_lit 20, pk_sub hj1, gd_t (nI_in (by omega) (by decide)), v_cl (by omega), hst (j - 20) hi]
      rfl
    · rw [if_neg (nI_nlt (by omega) hj), if_neg d2]
      rfl
noncomputable def Q_burrOf (x1 x2 : Int32) (σ : Sp) : Option Int32 := some (A_burrOf x1 x2 σ)
noncomputable def Q_lotOf (x1 x2 : Int32) (σ : Sp) : Option Int32 := some (A_lotOf x1 x2 σ)
noncomputable def Q_portionOf (x1 x2 x3 : Int32) (σ : Sp) : Option Int32 := some (A_portionOf x1 x2 x3 σ)
noncomputable def Q_shotOf (x1 x2 : Int32) (σ : Sp) : Option Int32 := some (A_shotOf x1 x2 σ)
noncomputable def Q_count (x1 : Int32) (σ : Sp) : Option Int32 := gd (¬ x1 = 10) (some (A_count x1 σ))
noncomputable def QO (a : Int32) (σ' σ : Sp) : Option (Int32 × Sp) := gd (v_se σ < 2 ^ 27) (some (a, if 0 ≤ a then σ' else σ))
noncomputable def Q_fill (x1 x2 : Int32) (σ : Sp) : Option (Int32 × Sp) := QO (a_fill x1 x2 (v_lo σ)) (o_fill (nx x1) (nx x2) σ) σ
noncomputable def Q_grind (x1 x2 : Int32) (σ : Sp) : Option (Int32 × Sp) := QO (a_grind x1 x2 (v_lo σ) (v_ch σ) (v_ba σ) (v_st σ 2)) (o_grind (nx x1) (nx x2) σ) σ
noncomputable def Q_dial (x1 x2 : Int32) (σ : Sp) : Option (Int32 × Sp) := QO (a_dial x1 x2 (v_b0 σ) (v_b1 σ)) (o_dial (nx x1) (nx x2) σ) σ
noncomputable def Q_rest (x1 : Int32) (σ : Sp) : Option (Int32 × Sp) := QO (a_rest x1 (v_b0 σ).2.1 (v_b1 σ).2.1 (v_se σ)) (o_rest (nx x1) σ) σ
noncomputable def Q_shot (σ : Sp) : Option (Int32 × Sp) := QO (a_shot (v_st σ) (v_ba σ)) (o_shot σ) σ
noncomputable def Q_purge (σ : Sp) : Option (Int32 × Sp) := QO (nI (tot (v_ch σ))) (o_purge σ) σ
noncomputable def Q_correct (x1 : Int32) (σ : Sp) : Option (Int32 × Sp) := QO (a_corr x1 (v_K σ) (v_b0 σ) (v_b1 σ) (v_st σ 0)) (o_corr (nx x1) σ) σ
noncomputable def Q_set (x1 x2 : Int32) (σ : Sp) : Option (Int32 × Sp) := QO (a_set x1 x2 (v_st σ)) (o_set (nx x1) (nx x2) σ) σ
theorem KK_self {σ : Sp} {B : Nat} (h : KK σ B) : KK σ (v_se σ) := by
  obtain ⟨k1, k2, k3, k4, k5, k6, k7, k8, k9, k10, k11, k12, k13, k14⟩ := h
  exact ⟨k1, k2, k3, k4, k5, k6, k7, k8, k9, k10, k11, k12, k13, Nat.le_refl _⟩
theorem p_keep {a : Int32} {nw sp yl ys yt yo n : Nat} (hn : n ≤ 4) : f_X7_keepIfDone a nw sp yl ys yt yo (nI n) = some (if 0 ≤ a then (a, sp, yo, nw, yl, ys, yt, nI (min 4 (n + 1))) else (a, nw, sp, yl, ys, yt, yo, nI n)) := by
  rw [f_X7_keepIfDone]
  by_cases c : 0 ≤ a
  · have e : (if nI n + (1 : Int32) < (4 : Int32) then nI n + (1 : Int32) else (4 : Int32)) = nI (min 4 (n + 1)) := by
      rw [nI_1]
      by_cases q : n + 1 < 4
      · rw [if_pos (show nI (n + 1) < (4 : Int32) from nI_lt (b := 4) q (by decide))]
        exact nI_inj (by omega)
      · rw [if_neg (show ¬ nI (n + 1) < (4 : Int32) from nI_nlt (b := 4) (by omega) (by omega)), show min 4 (n + 1) = 4 by omega]
        rfl
    rw [if_pos c, if_pos c, f_X2_add, e, lt_v, Option.bind_some]
  · rw [if_neg c, if_neg c]
/-- a change of the class: the state that is spare is the new one, or nothing is -/
def PCH (σ' : Sp) (a : Int32) (nw sp yl ys yt yo n : Nat) (R : Int32 × Nat × Nat × Nat × Nat × Nat × Nat × Int32 × Gr) : Prop := R.1 = a ∧ (a < 0 → R.2.1 = nw ∧ R.2.2.1 = sp ∧ R.2.2.2.1 = yl ∧ R.2.2.2.2.1 = ys ∧ R.2.2.2.2.2.1 = yt ∧ R.2.2.2.2.2.2.1 = yo ∧ R.2.2.2.2.2.2.2.1 = nI n) ∧ (0 ≤ a → R.2.1 = sp ∧ R.2.2.1 = yo ∧ R.2.2.2.1 = nw ∧ R.2.2.2.2.1 = yl ∧ R.2.2.2.2.2.1 = ys ∧ R.2.2.2.2.2.2.1 = yt ∧ R.2.2.2.2.2.2.2.1 = nI (min 4 (n + 1)) ∧ GR σ' R.2.2.2.2.2.2.2.2)
theorem p_chg {σ σ' : Sp} {gN gS : Gr} {B n nw sp yl ys yt yo : Nat} {a : Int32} (F : Gr → Option (Int32 × Gr)) (hg : GR σ gN) (hk : KK σ B) (hn : n ≤ 4) (hF : ∀ g, GR σ g → ∃ R, F g = some R ∧ R.1 = a ∧ (0 ≤ R.1 → GR σ' R.2)) : ∃ R, ((f_X7_spareLikeNow nw sp gN gS).bind fun q1 => (F q1).bind fun q2 => (f_X7_keepIfDone q2.1 nw sp yl ys yt yo (nI n)).bind fun q3 => some (q3.1, q3.2.1, q3.2.2.1, q3.2.2.2.1, q3.2.2.2.2.1, q3.2.2.2.2.2.1, q3.2.2.2.2.2.2.1, q3.2.2.2.2.2.2.2, q2.2)) = some R ∧ PCH σ' a nw sp yl ys yt yo n R := by
  obtain ⟨g1, e1, h1⟩ := G_copyFrom hg hk gS
  obtain ⟨R2, e2, h2, h3⟩ := hF g1 h1
  rw [f_X7_spareLikeNow, e1, Option.bind_some, Option.bind_some, e2, Option.bind_some, p_keep hn, Option.bind_some]
  by_cases c : 0 ≤ R2.1
  · rw [if_pos c]
    refine ⟨_, rfl, h2, fun q => absurd (h2 ▸ c) (Int32.not_le.mpr q), fun _ => ⟨rfl, rfl, rfl, rfl, rfl, rfl, rfl, h3 c⟩⟩
  · rw [if_neg c]
    exact ⟨_, rfl, h2, fun _ => ⟨rfl, rfl, rfl, rfl, rfl, rfl, rfl⟩, fun q => absurd (h2 ▸ q) c⟩
