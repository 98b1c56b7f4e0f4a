/-! the reference's changes: dial, rest, purge, set, correct -/
theorem ltA : cIA < 0 := by decide
theorem ltB : cNP < 0 := by decide
theorem ltC : cLR < 0 := by decide
theorem RC_neg {σ σ' : Sp} {hs : List Sp} {a : Int32} {S P : Nat → Int32} {pasts runs : Int32} (ha : a < 0) : RC σ σ' hs a S P pasts runs (a, S, P, pasts) := ⟨rfl, fun _ => rfl, fun h => absurd h (neg_no ha)⟩
theorem RC_pos {σ σ' : Sp} {hs : List Sp} {a : Int32} {S S' P P' : Nat → Int32} {pasts pasts' runs : Int32} (ha : ¬ a < 0) (hm : MR σ' S') (h1 : runs = 1 → (P', pasts') = (P, pasts)) (h0 : runs = 0 → PR ((σ :: hs).take 4) P' pasts') : RC σ σ' hs a S P pasts runs (a, S', P', pasts') := ⟨rfl, fun h => absurd h ha, fun _ => ⟨hm, h1, h0⟩⟩
theorem r_ofB0 {b : Nat} {S : Nat → Int32} (hb : b < 2) : f_X8_ofBurr (nI b) (0 : Int32) S = some (S (13 + 4 * b)) := r_ofBurr (w := 0) hb (by decide)
theorem r_ofB1 {b : Nat} {S : Nat → Int32} (hb : b < 2) : f_X8_ofBurr (nI b) (1 : Int32) S = some (S (13 + 4 * b + 1)) := r_ofBurr (w := 1) hb (by decide)
theorem r_ei0 (b : Nat) : (13 : Int32) + (4 : Int32) * nI b + (0 : Int32) = nI (13 + 4 * b) := by
  rw [fa_lit 13, fa_lit 4, fa_lit 0, pk_mul, nI_add, nI_add, Nat.add_zero]
theorem r_ei1 (b : Nat) : (13 : Int32) + (4 : Int32) * nI b + (1 : Int32) = nI (13 + 4 * b + 1) := by
  rw [fa_lit 13, fa_lit 4, fa_lit 1, pk_mul, nI_add, nI_add]
theorem r_ei3 (b : Nat) : (13 : Int32) + (4 : Int32) * nI b + (3 : Int32) = nI (13 + 4 * b + 3) := by
  rw [fa_lit 13, fa_lit 4, fa_lit 3, pk_mul, nI_add, nI_add]
/-- other burrs, another second -/
theorem MR_bt {σ : Sp} {B : Nat} {S S' : Nat → Int32} (h : MR σ S) (hk : KK σ B) (e : ∀ i, i ≠ 0 → (i < 13 ∨ 21 ≤ i) → S' i = S i) {b0 b1 : Bu} {se : Nat} (h0 : buM 13 b0 S') (h1 : buM 17 b1 S') (hse : S' 0 = nI se) : MR (v_lo σ, v_ch σ, v_ba σ, b0, b1, v_K σ, v_mk σ, v_st σ, se, v_fi σ, v_gr σ, v_br σ, v_pu σ, v_nr σ) S' := by
  obtain ⟨m1, m2, m3, m4, m5, m6, m7, m8, m9, m10, m11, m12, m13, m14⟩ := h
  obtain ⟨k1, k2, k3, k4, k5, k6, k7, k8, k9, k10, k11, k12, k13, k14⟩ := hk
  have l1 := len_tot k5
  have l2 := len_tot k8
  exact ⟨m1.of k4 (fun i q1 q2 => e i (by omega) (by omega)), h0, h1, m4.of (n := 100) (by omega) (fun i q1 q2 => e i (by omega) (by omega)), m5.of (n := 400) (by omega) (fun i q1 q2 => e i (by omega) (by omega)), m6.of (fun i q1 q2 => e i (by omega) (by omega)), (e 5 (by decide) (by decide)).trans m7, m8.of (fun i q1 q2 => e i (by omega) (by omega)), hse, (e 1 (by decide) (by decide)).trans m10, (e 2 (by decide) (by decide)).trans m11, (e 3 (by decide) (by decide)).trans m12, (e 4 (by decide) (by decide)).trans m13, (e 6 (by decide) (by decide)).trans m14⟩
theorem r_dial {σ : Sp} {hs : List Sp} {B : Nat} {S P : Nat → Int32} {pasts runs : Int32} (h : PR hs P pasts) (hm : MR σ S) (hk : KK σ B) (hK : KH hs B) (hr : runs = 0 ∨ runs = 1) (x1 x2 : Int32) : ∃ R, f_X8_dial x1 x2 S P pasts runs = some R ∧ RC σ (o_dial (nx x1) (nx x2) σ) hs (a_dial x1 x2 (v_b0 σ) (v_b1 σ)) S P pasts runs R := by
  unfold a_dial
  rw [f_X8_dial, r_isOne]
  simp only [Option.bind_some]
  by_cases c1 : x1 = 0 ∨ x1 = 1
  · rw [if_pos c1, if_neg (by decide), r_in]
    simp only [Option.bind_some]
    by_cases c2 : x2 < 1 ∨ (60 : Int32) < x2
    · rw [if_pos c2, if_pos rfl, if_pos (show bad2 x1 x2 60 from Or.inr c2)]
      exact ⟨_, rfl, RC_neg ltA⟩
    · rw [if_neg c2, if_neg (by decide), if_neg (show ¬ bad2 x1 x2 60 from fun q => by rcases q with q | q; exact q c1; exact c2 q)]
      obtain ⟨b, hb, rfl⟩ := v01 c1
      obtain ⟨a, ha1, ha2, rfl⟩ := v_rng (hi := 60) (by decide) (fun q => c2 (Or.inl q)) (fun q => c2 (Or.inr q))
      obtain ⟨P', pasts', e1, e2, e3⟩ := r_chg h hm hk hK hr
      have eb : (nI b).toNatClampNeg = b := v_cl (by omega)
      have ea : (nI a).toNatClampNeg = a := v_cl (by omega)
      have hd := (bsel_K b hk.2.2.2.2.2.2.2.2.2.2.1 hk.2.2.2.2.2.2.2.2.2.2.2.1).2.1
      have hM : MR (o_dial b a σ) (upd S (13 + 4 * b) (nI a)) := by
        refine MR_bt (b0 := if b = 0 then (a, (v_b0 σ).2) else v_b0 σ) (b1 := if b = 0 then v_b1 σ else (a, (v_b1 σ).2)) (se := v_se σ) hm hk (fun i i1 i2 => pk_un (by omega)) ?_ ?_ ((pk_un (by omega)).trans hm.2.2.2.2.2.2.2.2.1)
        · rcases (show b = 0 ∨ b = 1 by omega) with rfl | rfl
          · exact ⟨pk_us, (pk_un (by decide)).trans hm.2.1.2.1, (pk_un (by decide)).trans hm.2.1.2.2.1, (pk_un (by decide)).trans hm.2.1.2.2.2⟩
          · exact hm.2.1.of (fun i q1 q2 => pk_un (by omega))
        · rcases (show b = 0 ∨ b = 1 by omega) with rfl | rfl
          · exact hm.2.2.1.of (fun i q1 q2 => pk_un (by omega))
          · exact ⟨pk_us, (pk_un (by decide)).trans hm.2.2.1.2.1, (pk_un (by decide)).trans hm.2.2.1.2.2.1, (pk_un (by decide)).trans hm.2.2.1.2.2.2⟩
      simp only [nx, eb, ea]
      rw [e1]
      simp only [Option.bind_some]
      rw [r_ofB0 hb]
      simp only [Option.bind_some]
      rw [r_ei0, gd_t (nI_in (by omega) (by decide)), v_cl (by omega), lt_v, (bs_M hm hb).1]
      exact ⟨_, rfl, RC_pos (nI_nn (by omega)) hM e2 e3⟩
  · rw [if_neg c1, if_pos rfl, if_pos (show bad2 x1 x2 60 from Or.inl c1)]
    exact ⟨_, rfl, RC_neg ltA⟩
theorem r_rest {σ : Sp} {hs : List Sp} {B : Nat} {S P : Nat → Int32} {pasts runs : Int32} (h : PR hs P pasts) (hm : MR σ S) (hk : KK σ B) (hK : KH hs B) (hB : B < 2 ^ 28) (hr : runs = 0 ∨ runs = 1) (x1 : Int32) : ∃ R, f_X8_rest x1 S P pasts runs = some R ∧ RC σ (o_rest (nx x1) σ) hs (a_rest x1 (v_b0 σ).2.1 (v_b1 σ).2.1 (v_se σ)) S P pasts runs R := by
  unfold a_rest
  rw [f_X8_rest, r_in]
  simp only [Option.bind_some]
  by_cases c2 : x1 < 1 ∨ (999 : Int32) < x1
  · rw [if_pos c2, if_pos rfl, if_pos (show x1 < 1 ∨ nI 999 < x1 from c2)]
    exact ⟨_, rfl, RC_neg ltA⟩
  · rw [if_neg c2, if_neg (by decide), if_neg (show ¬ (x1 < 1 ∨ nI 999 < x1) from c2)]
    obtain ⟨a, ha1, ha2, rfl⟩ := v_rng (hi := 999) (by decide) (fun q => c2 (Or.inl q)) (fun q => c2 (Or.inr q))
    obtain ⟨P', pasts', e1, e2, e3⟩ := r_chg h hm hk hK hr
    have ea : (nI a).toNatClampNeg = a := v_cl (by omega)
    have k11 := hk.2.2.2.2.2.2.2.2.2.2.1
    have k12 := hk.2.2.2.2.2.2.2.2.2.2.2.1
    have k14 := hk.2.2.2.2.2.2.2.2.2.2.2.2.2
    obtain ⟨S', a1, a2, a3, a4, a5⟩ := r_passes (n := a) (by omega) hm.2.2.2.2.2.2.2.2.1 hm.2.1.2.1 hm.2.2.1.2.1 (by omega) k11.2.2 k12.2.2
    rw [e1]
    simp only [Option.bind_some]
    rw [a1]
    simp only [Option.bind_some]
    simp only [nx, ea]
    have hw0 := k11.2.2
    have hw1 := k12.2.2
    have hM : MR (o_rest a σ) S' := MR_bt (b0 := buC (v_b0 σ) (tmz (v_se σ) a)) (b1 := buC (v_b1 σ) (tmz (v_se σ) a)) (se := v_se σ + a) hm hk (fun i i1 i2 => a5 i i1 (by omega) (by omega)) ⟨(a5 13 (by decide) (by decide) (by decide)).trans hm.2.1.1, a3, (a5 15 (by decide) (by decide) (by decide)).trans hm.2.1.2.2.1, (a5 16 (by decide) (by decide) (by decide)).trans hm.2.1.2.2.2⟩ ⟨(a5 17 (by decide) (by decide) (by decide)).trans hm.2.2.1.1, a4, (a5 19 (by decide) (by decide) (by decide)).trans hm.2.2.1.2.2.1, (a5 20 (by decide) (by decide) (by decide)).trans hm.2.2.1.2.2.2⟩ a2
    exact ⟨_, rfl, RC_pos (nI_nn (by omega)) hM e2 e3⟩
theorem r_purge {σ : Sp} {hs : List Sp} {B : Nat} {S P : Nat → Int32} {pasts runs : Int32} (h : PR hs P pasts) (hm : MR σ S) (hk : KK σ B) (hK : KH hs B) (hr : runs = 0 ∨ runs = 1) : ∃ R, f_X8_purge S P pasts runs = some R ∧ RC σ (o_purge σ) hs (nI (tot (v_ch σ))) S P pasts runs R := by
  obtain ⟨P', pasts', e1, e2, e3⟩ := r_chg h hm hk hK hr
  obtain ⟨m1, m2, m3, m4, m5, m6, m7, m8, m9, m10, m11, m12, m13, m14⟩ := hm
  obtain ⟨k1, k2, k3, k4, k5, k6, k7, k8, k9, k10, k11, k12, k13, k14⟩ := hk
  have l1 := len_tot k5
  have l2 := len_tot k8
  have ec : f_X8_amounts (34 : Int32) (35 : Int32) S = some (nI (tot (v_ch σ))) := r_amounts (b := 34) m4 (okP_of k5 (by omega)) (by omega)
  have c4 : (4 : Int32).toNatClampNeg = 4 := rfl
  rw [f_X8_purge, e1]
  simp only [Option.bind_some]
  rw [ec]
  simp only [Option.bind_some, lt_v, c4, c34]
  have e : ∀ i, i ≠ 4 → i ≠ 34 → upd (upd S 4 (S 4 + nI (tot (v_ch σ)))) 34 (0 : Int32) i = S i := fun i q1 q2 => (pk_un q2).trans (pk_un q1)
  refine ⟨_, rfl, RC_pos (nI_nn (by omega)) ⟨m1.of k4 (fun i q1 q2 => e i (by omega) (by omega)), m2.of (fun i q1 q2 => e i (by omega) (by omega)), m3.of (fun i q1 q2 => e i (by omega) (by omega)), ⟨pk_us, fun k hk => absurd hk (Nat.not_lt_zero k)⟩, m5.of (n := 400) (by omega) (fun i q1 q2 => e i (by omega) (by omega)), m6.of (fun i q1 q2 => e i (by omega) (by omega)), (e 5 (by decide) (by decide)).trans m7, m8.of (fun i q1 q2 => e i (by omega) (by omega)), (e 0 (by decide) (by decide)).trans m9, (e 1 (by decide) (by decide)).trans m10, (e 2 (by decide) (by decide)).trans m11, (e 3 (by decide) (by decide)).trans m12, ?_, (e 6 (by decide) (by decide)).trans m14⟩ e2 e3⟩
  show upd (upd S 4 (S 4 + nI (tot (v_ch σ)))) 34 (0 : Int32) 4 = v_pu σ + nI (tot (v_ch σ))
  rw [pk_un (by decide), pk_us, m13]
theorem r_least {j : Nat} (hj : j < 6) : f_X8_leastOf (nI j) = some (nI (lsN j)) := by
  rcases six hj with rfl | rfl | rfl | rfl | rfl | rfl <;> rfl
theorem r_most {j : Nat} (hj : j < 6) : f_X8_mostOf (nI j) = some (nI (msN j)) := by
  rcases six hj with rfl | rfl | rfl | rfl | rfl | rfl <;> rfl
theorem r_set {σ : Sp} {hs : List Sp} {B : Nat} {S P : Nat → Int32} {pasts runs : Int32} (h : PR hs P pasts) (hm : MR σ S) (hk : KK σ B) (hK : KH hs B) (hr : runs = 0 ∨ runs = 1) (x1 x2 : Int32) : ∃ R, f_X8_set x1 x2 S P pasts runs = some R ∧ RC σ (o_set (nx x1) (nx x2) σ) hs (a_set x1 x2 (v_st σ)) S P pasts runs R := by
  have hz := fun q => aset_ok (x1 := x1) (x2 := x2) (v := v_st σ) q
  revert hz
  unfold a_set
  rw [f_X8_set, r_in]
  simp only [Option.bind_some]
  by_cases c1 : x1 < 0 ∨ 6 ≤ nx x1
  · intro _
    have c1' : x1 < 0 ∨ (5 : Int32) < x1 := by
      by_cases c2 : x1 < 0
      · exact Or.inl c2
      · obtain ⟨j, hj, rfl⟩ := nI_of c2
        rcases c1 with c1 | c1
        · exact absurd c1 c2
        · rw [show nx (nI j) = j from v_cl hj] at c1
          exact Or.inr (nI_lt (a := 5) (by omega) hj)
    rw [if_pos c1', if_pos rfl, if_pos c1]
    exact ⟨_, rfl, RC_neg ltA⟩
  · rw [if_neg c1]
    intro hz
    obtain ⟨j, hj, rfl⟩ := nI_of (fun q => c1 (Or.inl q))
    have ej : nx (nI j) = j := v_cl hj
    rw [ej] at c1 hz ⊢
    have hj6 : j < 6 := Nat.not_le.mp (fun q => c1 (Or.inr q))
    have c1' : ¬ (nI j < 0 ∨ (5 : Int32) < nI j) := fun q => by
      rcases q with q | q
      · exact c1 (Or.inl q)
      · exact nI_nlt (a := 5) (b := j) (by omega) (by omega) q
    rw [if_neg c1', if_neg (by decide), r_least hj6]
    simp only [Option.bind_some]
    rw [r_most hj6]
    simp only [Option.bind_some]
    rw [r_in]
    simp only [Option.bind_some]
    by_cases c2 : x2 < nI (lsN j) ∨ nI (msN j) < x2
    · rw [if_pos c2, if_pos rfl, if_pos c2]
      exact ⟨_, rfl, RC_neg ltA⟩
    · rw [if_neg c2] at hz ⊢
      rw [if_neg (by decide)]
      obtain ⟨P', pasts', e1, e2, e3⟩ := r_chg h hm hk hK hr
      rw [e1]
      simp only [Option.bind_some]
      rw [if_neg c2, fa_lit 7, nI_add, gd_t (nI_in (by omega) (by decide)), lt_v, gd_t (nI_in (by omega) (by decide)), lt_v, v_cl (by omega)]
      obtain ⟨m1, m2, m3, m4, m5, m6, m7, m8, m9, m10, m11, m12, m13, m14⟩ := hm
      obtain ⟨k1, k2, k3, k4, k5, k6, k7, k8, k9, k10, k11, k12, k13, k14⟩ := hk
      have l1 := len_tot k5
      have l2 := len_tot k8
      have hv : v_st σ j < 2 ^ 31 := by
        obtain ⟨s1, s2, s3, s4, s5, s6, s7, s8, s9⟩ := k13
        rcases six hj6 with rfl | rfl | rfl | rfl | rfl | rfl <;> omega
      have e5 := (hz (nI_pos' hv)).2.2.2.2.1
      rw [m8 j hj6]
      refine ⟨_, rfl, RC_pos (nI_nn hv) ⟨m1.of k4 (fun i q1 q2 => pk_un (by omega)), m2.of (fun i q1 q2 => pk_un (by omega)), m3.of (fun i q1 q2 => pk_un (by omega)), m4.of (n := 100) (by omega) (fun i q1 q2 => pk_un (by omega)), m5.of (n := 400) (by omega) (fun i q1 q2 => pk_un (by omega)), m6.of (fun i q1 q2 => pk_un (by omega)), (pk_un (by omega)).trans m7, fun k hk => ?_, (pk_un (by omega)).trans m9, (pk_un (by omega)).trans m10, (pk_un (by omega)).trans m11, (pk_un (by omega)).trans m12, (pk_un (by omega)).trans m13, (pk_un (by omega)).trans m14⟩ e2 e3⟩
      show upd S (7 + j) x2 (7 + k) = nI (updN (v_st σ) j (nx x2) k)
      unfold updN
      by_cases e : k = j
      · subst e
        rw [pk_us, if_pos rfl]
        exact e5
      · rw [pk_un (by omega), if_neg e]
        exact m8 k hk
theorem r_corrects {b t : Nat} {x : Bu} {S : Nat → Int32} {g : Nat} (hb : b < 2) (hx : buK x) (h : buM (13 + 4 * b) x S) (hg : S 7 = nI g) (g1 : 100 ≤ g) (g2 : g ≤ 600) (ht : t ≤ 30000) : ∃ S', f_X8_corrects (nI b) (nI t) S = some S' ∧ buM (13 + 4 * b) (buX x t g) S' ∧ ∀ i, i ≠ 13 + 4 * b → i ≠ 13 + 4 * b + 3 → S' i = S i := by
  obtain ⟨x1, x2, x3⟩ := hx
  have c7 : (7 : Int32).toNatClampNeg = 7 := rfl
  have hdt : x.1 * t ≤ 60 * 30000 := Nat.mul_le_mul x2 ht
  have key : ∀ z : Nat, f_X8_corrects_J60 (nI b) (nI z) (nI (13 + 4 * b)) S = some (upd (upd S (13 + 4 * b) (nI z)) (13 + 4 * b + 3) (x.2.2.2 + 1)) := fun z => by
    have u : upd S (13 + 4 * b) (nI z) (13 + 4 * b + 3) = x.2.2.2 := (pk_un (by omega)).trans h.2.2.2
    rw [f_X8_corrects_J60, gd_t (nI_in (by omega) (by decide)), v_cl (by omega)]
    simp only [lt_v]
    rw [r_ei3, gd_t (nI_in (by omega) (by decide)), gd_t (nI_in (by omega) (by decide)), v_cl (by omega), u]
  refine ⟨upd (upd S (13 + 4 * b) (nI (cor x.1 t g))) (13 + 4 * b + 3) (x.2.2.2 + 1), ?_, ⟨(pk_un (by omega)).trans pk_us, (pk_un (by omega)).trans ((pk_un (by omega)).trans h.2.1), (pk_un (by omega)).trans ((pk_un (by omega)).trans h.2.2.1), pk_us⟩, fun i i1 i2 => (pk_un i2).trans (pk_un i1)⟩
  rw [f_X8_corrects, r_ofB0 hb]
  simp only [Option.bind_some]
  rw [c7, hg, gd_t (nI_ne0 (by omega) (by omega)), h.1, pk_mul]
  unfold cor
  generalize hm : x.1 * t = m at hdt ⊢
  have hq : (m + g / 2) / g ≤ m + g / 2 := Nat.div_le_self _ _
  rw [fa_lit 2, pk_div (by omega) (by decide) (by decide), nI_add, pk_div (by omega) (by omega) (by omega), lt_v, r_ei0, fa_lit 60, fa_lit 1]
  generalize hz : (m + g / 2) / g = z at hq ⊢
  by_cases h1 : 1 ≤ z
  · rw [if_pos (nI_le h1 (by omega))]
    by_cases h2 : z ≤ 60
    · rw [if_pos (nI_le h2 (by decide)), key, show max 1 (min 60 z) = z by omega]
      rfl
    · rw [if_neg (nI_ge (by omega) (by omega)), key, show max 1 (min 60 z) = 60 by omega]
      rfl
  · rw [if_neg (nI_ge (by omega) (by decide)), key, show max 1 (min 60 z) = 1 by omega]
    rfl
theorem r_correct {σ : Sp} {hs : List Sp} {B : Nat} {S P : Nat → Int32} {pasts runs : Int32} (h : PR hs P pasts) (hm : MR σ S) (hk : KK σ B) (hK : KH hs B) (hr : runs = 0 ∨ runs = 1) (x1 : Int32) : ∃ R, f_X8_correct x1 S P pasts runs = some R ∧ RC σ (o_corr (nx x1) σ) hs (a_corr x1 (v_K σ) (v_b0 σ) (v_b1 σ) (v_st σ 0)) S P pasts runs R := by
  have c546 : (546 : Int32).toNatClampNeg = 546 := rfl
  have c548 : (548 : Int32).toNatClampNeg = 548 := rfl
  unfold a_corr
  rw [f_X8_correct, r_isOne]
  simp only [Option.bind_some]
  by_cases c1 : x1 = 0 ∨ x1 = 1
  · rw [if_pos c1, if_neg (by decide), if_neg (not_not_intro c1)]
    have h12 := hm.2.2.2.2.2.1.2.1
    rw [c546, hm.2.2.2.2.2.1.1]
    by_cases c2 : (v_K σ).length = 0
    · rw [if_pos (by rw [c2]; exact nI_0), if_pos c2]
      exact ⟨_, rfl, RC_neg ltB⟩
    · rw [if_neg (nI_ne0 (by omega) (by omega)), if_neg c2]
      obtain ⟨b, hb, rfl⟩ := v01 c1
      obtain ⟨P', pasts', e1, e2, e3⟩ := r_chg h hm hk hK hr
      have eb : nx (nI b) = b := v_cl (by omega)
      have k11 := hk.2.2.2.2.2.2.2.2.2.2.1
      have k12 := hk.2.2.2.2.2.2.2.2.2.2.2.1
      have k13 := hk.2.2.2.2.2.2.2.2.2.2.2.2.1
      have ht := hm.2.2.2.2.2.1.2.2.1 0 (by omega)
      have et : S 548 = nI (sk0 (v_K σ) 0).2.1 := (hm.2.2.2.2.2.1.2.2.2 0 (by omega)).2.1
      obtain ⟨S', a1, a2, a3⟩ := r_corrects (g := v_st σ 0) hb (bsel_K b k11 k12) (bs_M hm hb) (hm.2.2.2.2.2.2.2.1 0 (by decide)) k13.1 k13.2.1 ht
      rw [e1]
      simp only [Option.bind_some]
      rw [c548, et, a1]
      simp only [Option.bind_some]
      rw [r_ofB0 hb, eb, a2.1]
      simp only [Option.bind_some]
      have hX := (buX_K (sk0 (v_K σ) 0).2.1 (v_st σ 0) (bsel_K b k11 k12)).2.1
      refine ⟨_, rfl, RC_pos (nI_nn (Nat.lt_of_le_of_lt hX (by decide))) (MR_bt hm hk (fun i i1 i2 => a3 i (by omega) (by omega)) ?_ ?_ ((a3 0 (by omega) (by omega)).trans hm.2.2.2.2.2.2.2.2.1)) e2 e3⟩
      · rcases (show b = 0 ∨ b = 1 by omega) with rfl | rfl
        · exact a2
        · exact hm.2.1.of (fun i q1 q2 => a3 i (by omega) (by omega))
      · rcases (show b = 0 ∨ b = 1 by omega) with rfl | rfl
        · exact hm.2.2.1.of (fun i q1 q2 => a3 i (by omega) (by omega))
        · exact a2
  · rw [if_neg c1, if_pos rfl, if_pos c1]
    exact ⟨_, rfl, RC_neg ltA⟩
