/-! the reference's fill and grind -/
/-- other lots, and how much was filled in -/
theorem MR_lo {σ : Sp} {B : Nat} {S S' : Nat → Int32} (h : MR σ S) (hk : KK σ B) (e : ∀ i, i ≠ 1 → (i < 21 ∨ 34 ≤ i) → S' i = S i) {L : List (Nat × Nat)} {fi : Int32} (h0 : loM L S') (h1 : S' 1 = fi) : MR (L, v_ch σ, v_ba σ, v_b0 σ, v_b1 σ, v_K σ, v_mk σ, v_st σ, v_se σ, fi, v_gr σ, v_br σ, v_pu σ, v_nr σ) S' := by
  obtain ⟨m1, m2, m3, m4, m5, m6, m7, m8, m9, m10, m11, m12, m13, m14⟩ := h
  obtain ⟨k1, k2, k3, k4, k5, k6, k7, k8, k9, k10, k11, k12, k13, k14⟩ := hk
  have l1 := len_tot k5
  have l2 := len_tot k8
  exact ⟨h0, m2.of (fun i q1 q2 => e i (by omega) (by omega)), m3.of (fun i q1 q2 => e i (by omega) (by omega)), m4.of (n := 100) (by omega) (fun i q1 q2 => e i (by omega) (by omega)), m5.of (n := 400) (by omega) (fun i q1 q2 => e i (by omega) (by omega)), m6.of (fun i q1 q2 => e i (by omega) (by omega)), (e 5 (by decide) (by decide)).trans m7, m8.of (fun i q1 q2 => e i (by omega) (by omega)), (e 0 (by decide) (by decide)).trans m9, h1, (e 2 (by decide) (by decide)).trans m11, (e 3 (by decide) (by decide)).trans m12, (e 4 (by decide) (by decide)).trans m13, (e 6 (by decide) (by decide)).trans m14⟩
theorem c1n : (1 : Int32).toNatClampNeg = 1 := rfl
theorem r_J167 {a : Nat} {runs pasts : Int32} {L : List (Nat × Nat)} {S P : Nat → Int32} (h : loM L S) (hl : L.length ≤ 6) : f_X8_fill_J167 runs (nI a) S P pasts = some (nI (tot L), upd S 1 (S 1 + nI a), P, pasts) := by
  rw [f_X8_fill_J167]
  simp only [lt_v, c1n]
  rw [r_hopper (h.of hl (fun i q1 q2 => pk_un (by omega))) hl]
  rfl
theorem r_J74n {σ : Sp} {hs : List Sp} {B : Nat} {S P : Nat → Int32} {pasts runs : Int32} (h : PR hs P pasts) (hm : MR σ S) (hk : KK σ B) (hK : KH hs B) (hr : runs = 0 ∨ runs = 1) {k a : Nat} (hk2 : k < 2) (ha : a ≤ 999) (hl : (v_lo σ).length < 6) (he : ends k (v_lo σ) = false) (y3 : Int32) : ∃ R, f_X8_fill_J74 runs (nI k) (nI a) y3 0 S P pasts = some R ∧ RC σ (o_fill k a σ) hs (if 4000 < tot (v_lo σ) + a then cLR else nI (tot (v_lo σ) + a)) S P pasts runs R := by
  have m1 := hm.1
  have k3 := hk.2.2.1
  rw [f_X8_fill_J74, r_hopper m1 (by omega)]
  simp only [Option.bind_some]
  rw [nI_add, fa_lit 4000]
  by_cases c : 4000 < tot (v_lo σ) + a
  · rw [if_neg (nI_ge c (by omega)), if_pos c]
    exact ⟨_, rfl, RC_neg ltC⟩
  · rw [if_pos (nI_le (by omega) (by omega)), if_neg c]
    obtain ⟨P', pasts', e1, e2, e3⟩ := r_chg h hm hk hK hr
    rw [e1]
    simp only [Option.bind_some]
    have e21 : S (21 : Int32).toNatClampNeg = nI (v_lo σ).length := m1.1
    generalize hn : (v_lo σ).length = n at e21 hl
    have ei : (22 : Int32) + (2 : Int32) * nI n = nI (22 + 2 * n) := by rw [fa_lit 22, fa_lit 2, pk_mul, nI_add]
    have ei1 : (22 : Int32) + (2 : Int32) * nI n + (1 : Int32) = nI (22 + 2 * n + 1) := by rw [ei, fa_lit 1, nI_add]
    rw [if_pos trivial, e21, ei, gd_t (nI_in (by omega) (by decide)), lt_v]
    have u21 : upd S (nI (22 + 2 * n)).toNatClampNeg (nI k) (21 : Int32).toNatClampNeg = nI n := by
      rw [v_cl (by omega)]
      exact (pk_un (by show 21 ≠ 22 + 2 * n; omega)).trans e21
    rw [u21, ei1, gd_t (nI_in (by omega) (by decide)), lt_v, v_cl (by omega), v_cl (by omega)]
    have w21 : upd (upd S (22 + 2 * n) (nI k)) (22 + 2 * n + 1) (nI a) (21 : Int32).toNatClampNeg = nI n := (pk_un (by show 21 ≠ 22 + 2 * n + 1; omega)).trans ((pk_un (by show 21 ≠ 22 + 2 * n; omega)).trans e21)
    rw [w21, lt_v, lt_v, nI_1, c21]
    have hL : loM (pour k a (v_lo σ)) (upd (upd (upd S (22 + 2 * n) (nI k)) (22 + 2 * n + 1) (nI a)) 21 (nI (n + 1))) := by
      unfold pour
      rw [he, if_neg (by decide)]
      refine ⟨?_, fun j hj => ?_⟩
      · rw [pk_us, List.length_append, hn]
        rfl
      · rw [List.length_append, List.length_singleton, hn] at hj
        by_cases q : j = n
        · subst q
          have := lk_r (L := v_lo σ) (K := [(a, k)]) (k := 0)
          rw [Nat.add_zero, lk_0, hn] at this
          rw [this]
          exact ⟨(pk_un (by omega)).trans ((pk_un (by omega)).trans pk_us), (pk_un (by omega)).trans pk_us⟩
        · rw [lk_l (by omega)]
          have := m1.2 j (by omega)
          exact ⟨(pk_un (by omega)).trans ((pk_un (by omega)).trans ((pk_un (by omega)).trans this.1)), (pk_un (by omega)).trans ((pk_un (by omega)).trans ((pk_un (by omega)).trans this.2))⟩
    have hlen : (pour k a (v_lo σ)).length ≤ 6 := pour_len (by omega) (Or.inl (by omega))
    rw [r_J167 hL hlen, pour_tot]
    refine ⟨_, rfl, RC_pos (nI_nn (by omega)) (σ' := o_fill k a σ) ?_ e2 e3⟩
    refine MR_lo hm hk (fun i i1 i2 => ?_) (hL.of hlen (fun i i1 i2 => pk_un (by omega))) ?_
    · rw [pk_un i1, pk_un (by omega), pk_un (by omega), pk_un (by omega)]
    · rw [pk_us, pk_un (by omega), pk_un (by omega), pk_un (by omega), hm.2.2.2.2.2.2.2.2.2.1]
theorem r_J74y {σ : Sp} {hs : List Sp} {B : Nat} {S P : Nat → Int32} {pasts runs : Int32} (h : PR hs P pasts) (hm : MR σ S) (hk : KK σ B) (hK : KH hs B) (hr : runs = 0 ∨ runs = 1) {k a : Nat} {K : List (Nat × Nat)} {x : Nat × Nat} (hk2 : k < 2) (ha : a ≤ 999) (hx : v_lo σ = K ++ [x]) (hxk : x.2 = k) : ∃ R, f_X8_fill_J74 runs (nI k) (nI a) (nI K.length) 1 S P pasts = some R ∧ RC σ (o_fill k a σ) hs (if 4000 < tot (v_lo σ) + a then cLR else nI (tot (v_lo σ) + a)) S P pasts runs R := by
  have m1 := hm.1
  have k3 := hk.2.2.1
  have k4 := hk.2.2.2.1
  have hlen : (v_lo σ).length = K.length + 1 := by rw [hx, List.length_append]; rfl
  rw [f_X8_fill_J74, r_hopper m1 (by omega)]
  simp only [Option.bind_some]
  rw [nI_add, fa_lit 4000]
  by_cases c : 4000 < tot (v_lo σ) + a
  · rw [if_neg (nI_ge c (by omega)), if_pos c]
    exact ⟨_, rfl, RC_neg ltC⟩
  · rw [if_pos (nI_le (by omega) (by omega)), if_neg c]
    obtain ⟨P', pasts', e1, e2, e3⟩ := r_chg h hm hk hK hr
    rw [e1]
    simp only [Option.bind_some]
    have hl := m1.2 K.length (by omega)
    have hr0 := lk_r (L := K) (K := [x]) (k := 0)
    rw [Nat.add_zero, lk_0] at hr0
    rw [hx, hr0] at hl
    generalize hn : K.length = n at hl hlen hr0
    have ei1 : (22 : Int32) + (2 : Int32) * nI n + (1 : Int32) = nI (22 + 2 * n + 1) := by rw [fa_lit 22, fa_lit 2, fa_lit 1, pk_mul, nI_add, nI_add]
    rw [if_neg (by decide), ei1, lt_v, gd_t (nI_in (by omega) (by decide)), lt_v, gd_t (nI_in (by omega) (by decide)), lt_v, v_cl (by omega), hl.2, nI_add]
    have hp : pour k a (v_lo σ) = K ++ [(x.1 + a, k)] := by
      unfold pour
      rw [hx, ends_app, show (x.2 == k) = true by simp [hxk], if_pos rfl, List.dropLast_concat, List.getLastD_concat]
    have hL : loM (pour k a (v_lo σ)) (upd S (22 + 2 * n + 1) (nI (x.1 + a))) := by
      rw [hp]
      refine ⟨?_, fun j hj => ?_⟩
      · rw [pk_un (by omega), m1.1, hlen, List.length_append, hn]
        rfl
      · rw [List.length_append, List.length_singleton, hn] at hj
        by_cases q : j = n
        · subst q
          have := lk_r (L := K) (K := [(x.1 + a, k)]) (k := 0)
          rw [Nat.add_zero, lk_0, hn] at this
          rw [this]
          exact ⟨(pk_un (by omega)).trans (hl.1.trans (congrArg nI hxk)), pk_us⟩
        · have := m1.2 j (by omega)
          rw [hx, lk_l (by omega)] at this
          rw [lk_l (by omega)]
          exact ⟨(pk_un (by omega)).trans this.1, (pk_un (by omega)).trans this.2⟩
    have hlen2 : (pour k a (v_lo σ)).length ≤ 6 := by rw [hp, List.length_append, hn]; show n + 1 ≤ 6; omega
    rw [r_J167 hL hlen2, pour_tot]
    refine ⟨_, rfl, RC_pos (nI_nn (by omega)) (σ' := o_fill k a σ) ?_ e2 e3⟩
    refine MR_lo hm hk (fun i i1 i2 => ?_) (hL.of hlen2 (fun i i1 i2 => pk_un (by omega))) ?_
    · rw [pk_un i1, pk_un (by omega)]
    · rw [pk_us, pk_un (by omega), hm.2.2.2.2.2.2.2.2.2.1]
theorem r_fillX {σ : Sp} {hs : List Sp} {B : Nat} {S P : Nat → Int32} {pasts runs : Int32} (h : PR hs P pasts) (hm : MR σ S) (hk : KK σ B) (hK : KH hs B) (hr : runs = 0 ∨ runs = 1) {k a : Nat} (hk2 : k < 2) (ha1 : 1 ≤ a) (ha2 : a ≤ 999) (X : Int32) (hX1 : full k a (v_lo σ) → X = cLR) (hX0 : ¬ full k a (v_lo σ) → X = nI (tot (v_lo σ) + a)) : ∃ R, f_X8_fill (nI k) (nI a) S P pasts runs = some R ∧ RC σ (o_fill k a σ) hs X S P pasts runs R := by
  have k4 := hk.2.2.2.1
  have hm1 := hm.1.1
  have hkl := hk.2.1
  have c1 : nI k = 0 ∨ nI k = 1 := by
    rcases (show k = 0 ∨ k = 1 by omega) with rfl | rfl
    · exact Or.inl rfl
    · exact Or.inr rfl
  have c2 : ¬ (nI a < 1 ∨ (999 : Int32) < nI a) := fun q => by
    rcases q with q | q
    · exact nI_nlt (a := a) (b := 1) ha1 (by omega) q
    · exact nI_nlt (a := 999) (b := a) ha2 (by decide) q
  rw [f_X8_fill, r_isOne]
  simp only [Option.bind_some]
  rw [if_pos c1, if_neg (by decide), r_in]
  simp only [Option.bind_some]
  rw [if_neg c2, if_neg (by decide), c21, hm1, lt_v]
  have hno : ends k (v_lo σ) = false → ∀ y3, ∃ R, f_X8_fill_J54 runs (nI k) (nI a) y3 S P pasts = some R ∧ RC σ (o_fill k a σ) hs X S P pasts runs R := by
    intro he y3
    rw [f_X8_fill_J54, f_X8_fill_J55, if_pos rfl, c21, hm1]
    by_cases c3 : (v_lo σ).length = 6
    · rw [if_pos (by rw [c3]; rfl), hX1 (Or.inr ⟨by omega, he⟩)]
      exact ⟨_, rfl, RC_neg ltC⟩
    · rw [if_neg (show ¬ nI (v_lo σ).length = (6 : Int32) from fun q => c3 ((nI_eq (b := 6) (by omega) (by decide)).mp q))]
      obtain ⟨R, r1, r2⟩ := r_J74n h hm hk hK hr hk2 ha2 (by omega) he y3
      refine ⟨R, r1, ?_⟩
      by_cases c4 : 4000 < tot (v_lo σ) + a
      · rw [if_pos c4] at r2
        rw [hX1 (Or.inl c4)]
        exact r2
      · rw [if_neg c4] at r2
        rw [hX0 (fun q => by rcases q with q | q; exact c4 q; exact q.1 (by omega))]
        exact r2
  rcases Classical.em (v_lo σ = []) with q | q
  · rw [q] at hno ⊢
    rw [if_pos (by decide)]
    exact hno (ends_nil k) _
  · obtain ⟨K, x, hx⟩ := snoc_of _ q
    have hlen : (v_lo σ).length = K.length + 1 := by rw [hx, List.length_append]; rfl
    have hl := hm.1.2 K.length (by omega)
    have hr0 := lk_r (L := K) (K := [x]) (k := 0)
    rw [Nat.add_zero, lk_0] at hr0
    rw [hx, hr0] at hl
    have hx2 : x.2 < 2 := hkl x (by rw [hx]; exact List.mem_append_right _ (List.mem_singleton.mpr rfl))
    have ei : (22 : Int32) + (2 : Int32) * nI K.length = nI (22 + 2 * K.length) := by rw [fa_lit 22, fa_lit 2, pk_mul, nI_add]
    rw [hlen, nI_pred, if_neg (nI_pos (by omega)), ei, gd_t (nI_in (by omega) (by decide)), v_cl (by omega), hl.1]
    by_cases c3 : x.2 = k
    · rw [if_pos (congrArg nI c3), f_X8_fill_J55, if_neg (by decide)]
      obtain ⟨R, r1, r2⟩ := r_J74y h hm hk hK hr hk2 ha2 hx c3
      refine ⟨R, r1, ?_⟩
      have he : ends k (v_lo σ) = true := by rw [hx, ends_app]; simp [c3]
      by_cases c4 : 4000 < tot (v_lo σ) + a
      · rw [if_pos c4] at r2
        rw [hX1 (Or.inl c4)]
        exact r2
      · rw [if_neg c4] at r2
        rw [hX0 (fun q => by rcases q with q | q; exact c4 q; (rw [he] at q; exact absurd q.2 (by decide)))]
        exact r2
    · rw [if_neg (fun z => c3 ((nI_eq (by omega) (by omega)).mp z))]
      refine hno ?_ _
      rw [hx, ends_app]
      simp [c3]
theorem r_fill {σ : Sp} {hs : List Sp} {B : Nat} {S P : Nat → Int32} {pasts runs : Int32} (h : PR hs P pasts) (hm : MR σ S) (hk : KK σ B) (hK : KH hs B) (hr : runs = 0 ∨ runs = 1) (x1 x2 : Int32) : ∃ R, f_X8_fill x1 x2 S P pasts runs = some R ∧ RC σ (o_fill (nx x1) (nx x2) σ) hs (a_fill x1 x2 (v_lo σ)) S P pasts runs R := by
  unfold a_fill
  by_cases c : bad2 x1 x2 999
  · rw [if_pos c, f_X8_fill, r_isOne]
    simp only [Option.bind_some]
    by_cases c1 : x1 = 0 ∨ x1 = 1
    · rw [if_pos c1, if_neg (by decide), r_in]
      simp only [Option.bind_some]
      rw [if_pos (show x2 < 1 ∨ (999 : Int32) < x2 from by rcases c with c | c; exact absurd c1 c; exact c), if_pos rfl]
      exact ⟨_, rfl, RC_neg ltA⟩
    · rw [if_neg c1, if_pos rfl]
      exact ⟨_, rfl, RC_neg ltA⟩
  · rw [if_neg c]
    obtain ⟨e1, e2, e3, e4, e5⟩ := b2_no (by decide) c
    have := fun X => r_fillX h hm hk hK hr e1 e2 e3 X
    rw [← e4, ← e5] at this
    exact this _ (fun q => if_pos q) (fun q => if_neg q)
theorem r_grind {σ : Sp} {hs : List Sp} {B : Nat} {S P : Nat → Int32} {pasts runs : Int32} (h : PR hs P pasts) (hm : MR σ S) (hk : KK σ B) (hK : KH hs B) (hB : B < 2 ^ 28) (hr : runs = 0 ∨ runs = 1) (x1 x2 : Int32) : ∃ R, f_X8_grind x1 x2 S P pasts runs = some R ∧ RC σ (o_grind (nx x1) (nx x2) σ) hs (a_grind x1 x2 (v_lo σ) (v_ch σ) (v_ba σ) (v_st σ 2)) S P pasts runs R := by
  rw [f_X8_grind, r_couldGrind hm hk]
  simp only [Option.bind_some]
  by_cases c : 0 ≤ a_grind x1 x2 (v_lo σ) (v_ch σ) (v_ba σ) (v_st σ 2)
  · obtain ⟨g1, g2, g3, g4⟩ := agrind_ok c
    obtain ⟨e1, e2, e3, e4, e5⟩ := b2_no (by decide) g1
    rw [if_pos c, g4]
    generalize nx x1 = b at e1 e4 ⊢
    generalize nx x2 = a at g2 g3 e2 e3 e5 ⊢
    subst e4
    subst e5
    obtain ⟨P', pasts', q1, q2, q3⟩ := r_chg h hm hk hK hr
    obtain ⟨S1, a1, a2, a3, a4, a5, a6, a7, a8⟩ := r_grinds hm hk e1 e2 e3 g2 g3
    have k11 := hk.2.2.2.2.2.2.2.2.2.2.1
    have k12 := hk.2.2.2.2.2.2.2.2.2.2.2.1
    have k14 := hk.2.2.2.2.2.2.2.2.2.2.2.2.2
    have k7 := hk.2.2.2.2.2.2.1
    have hb01 : b = 0 ∨ b = 1 := by omega
    have w0 : S1 14 = nI (if b = 0 then buG (v_b0 σ) a else v_b0 σ).2.1 := by
      rcases hb01 with rfl | rfl
      · exact a5
      · exact (a8 14 (by omega) (by omega) (by omega) (by omega)).trans hm.2.1.2.1
    have w1 : S1 18 = nI (if b = 0 then v_b1 σ else buG (v_b1 σ) a).2.1 := by
      rcases hb01 with rfl | rfl
      · exact (a8 18 (by omega) (by omega) (by omega) (by omega)).trans hm.2.2.1.2.1
      · exact a5
    have x0 : (if b = 0 then buG (v_b0 σ) a else v_b0 σ).2.1 ≤ 300 := by
      split
      · exact buG_w _ _ k11.2.2
      · exact k11.2.2
    have x1 : (if b = 0 then v_b1 σ else buG (v_b1 σ) a).2.1 ≤ 300 := by
      split
      · exact k12.2.2
      · exact buG_w _ _ k12.2.2
    have t0 : S1 0 = nI (v_se σ) := (a8 0 (by omega) (by omega) (by omega) (by omega)).trans hm.2.2.2.2.2.2.2.2.1
    obtain ⟨S2, p1, p2, p3, p4, p5⟩ := r_passes (n := (a + 9) / 10) (by omega) t0 w0 w1 (by omega) x0 x1
    have ht : (nI a + (9 : Int32)) / (10 : Int32) = nI ((a + 9) / 10) := by rw [fa_lit 9, fa_lit 10, nI_add, pk_div (by omega) (by decide) (by decide)]
    rw [q1]
    simp only [Option.bind_some]
    rw [a1]
    simp only [Option.bind_some]
    rw [ht, p1]
    simp only [Option.bind_some]
    rw [if_pos (nI_pos' (by omega))]
    have hg : g_out (v_ch σ) a (v_st σ 2) ≤ 500 := by unfold g_out; omega
    have hM : MR (o_grind b a σ) S2 := by
      obtain ⟨m1, m2, m3, m4, m5, m6, m7, m8, m9, m10, m11, m12, m13, m14⟩ := hm
      have kk := K_grind hk (x1 := nI b) (x2 := nI a) c
      rw [show nx (nI b) = b from v_cl (by omega), show nx (nI a) = a from v_cl (by omega)] at kk
      obtain ⟨j1, j2, j3, j4, j5, j6, j7, j8, j9, j10, j11, j12, j13, j14⟩ := kk
      have l1 := len_tot j5
      have l2 := len_tot j8
      have n1 : (tk (g_out (v_ch σ) a (v_st σ 2)) (g_in (v_lo σ) (v_ch σ) (bsel (v_b0 σ) (v_b1 σ) b).1 (bsel (v_b0 σ) (v_b1 σ) b).2.1 b a)).2.length ≤ 100 := Nat.le_trans l1 j7
      have n2 : (v_ba σ ++ (tk (g_out (v_ch σ) a (v_st σ 2)) (g_in (v_lo σ) (v_ch σ) (bsel (v_b0 σ) (v_b1 σ) b).1 (bsel (v_b0 σ) (v_b1 σ) b).2.1 b a)).1).length ≤ 400 := Nat.le_trans l2 j10
      have far : ∀ i, (i < 13 ∨ 546 ≤ i) → i ≠ 0 → i ≠ 2 → S2 i = S i := fun i i1 i2 i3 => (p5 i i2 (by omega) (by omega)).trans (a8 i (by omega) i3 (by omega) (by omega))
      refine ⟨a2.of j4 (fun i i1 i2 => p5 i (by omega) (by omega) (by omega)), ⟨?_, p3, ?_, ?_⟩, ⟨?_, p4, ?_, ?_⟩, a3.of (n := 100) n1 (fun i i1 i2 => p5 i (by omega) (by omega) (by omega)), a4.of (n := 400) n2 (fun i i1 i2 => p5 i (by omega) (by omega) (by omega)), m6.of (fun i i1 i2 => far i (by omega) (by omega) (by omega)), (far 5 (by decide) (by decide) (by decide)).trans m7, m8.of (fun i i1 i2 => far i (by omega) (by omega) (by omega)), p2, (far 1 (by decide) (by decide) (by decide)).trans m10, (p5 2 (by decide) (by decide) (by decide)).trans a7, (far 3 (by decide) (by decide) (by decide)).trans m12, (far 4 (by decide) (by decide) (by decide)).trans m13, (far 6 (by decide) (by decide) (by decide)).trans m14⟩
      · refine (p5 13 (by decide) (by decide) (by decide)).trans ((a8 13 (by decide) (by decide) (by omega) (by omega)).trans (m2.1.trans (congrArg nI ?_)))
        rcases hb01 with rfl | rfl <;> rfl
      · refine (p5 15 (by decide) (by decide) (by decide)).trans ?_
        rcases hb01 with rfl | rfl
        · exact a6
        · exact (a8 15 (by decide) (by decide) (by decide) (by decide)).trans m2.2.2.1
      · refine (p5 16 (by decide) (by decide) (by decide)).trans ((a8 16 (by decide) (by decide) (by omega) (by omega)).trans (m2.2.2.2.trans ?_))
        rcases hb01 with rfl | rfl <;> rfl
      · refine (p5 17 (by decide) (by decide) (by decide)).trans ((a8 17 (by decide) (by decide) (by omega) (by omega)).trans (m3.1.trans (congrArg nI ?_)))
        rcases hb01 with rfl | rfl <;> rfl
      · refine (p5 19 (by decide) (by decide) (by decide)).trans ?_
        rcases hb01 with rfl | rfl
        · exact (a8 19 (by decide) (by decide) (by decide) (by decide)).trans m3.2.2.1
        · exact a6
      · refine (p5 20 (by decide) (by decide) (by decide)).trans ((a8 20 (by decide) (by decide) (by omega) (by omega)).trans (m3.2.2.2.trans ?_))
        rcases hb01 with rfl | rfl <;> rfl
    exact ⟨_, rfl, RC_pos (nI_nn (by omega)) hM q2 q3⟩
  · rw [if_neg c]
    exact ⟨_, rfl, RC_neg (Int32.not_le.mp c)⟩
