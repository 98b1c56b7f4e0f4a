/-! a shot of the law as a whole -/
theorem L_judge {v : Nat → Nat} {t b : Nat} {b0 b1 : Bu} {nr : Int32} {G U E T X : Nat → Int32} {σ : Sp} (hs : stE v G) (hv : stK v) (ht : t ≤ 30000) (hb : b < 2) (h0 : buE 0 b0 U) (h1 : buE 1 b1 U) (k0 : buK b0) (k1 : buK b1) (h6 : G 6 = nr) (hX : X 0 = nI b) :
    ∃ G' U', (if (G 8) < nI (aw t (v 0)) then f_L_shoots_J302 (nI t) (0 : Int32) G U E T X σ else f_L_shoots_J302 (nI t) (1 : Int32) G U E T X σ) = f_L_shoots_J345 (nI t) G' U' E T X σ ∧ buE 0 (if b = 0 then buJ v t b0 else b0) U' ∧ buE 1 (if b = 0 then b1 else buJ v t b1) U' ∧ G' 6 = nrJ v t nr ∧ ∀ i, i ≠ 6 → G' i = G i := by
  obtain ⟨s1, s2, s3, s4, s5, s6, s7, s8, s9⟩ := id hv
  have e8 : G 8 = nI (v 1) := hs 1 (by decide)
  have e12 : G 12 = nI (v 5) := hs 5 (by decide)
  have e7 : G 7 = nI (v 0) := hs 0 (by decide)
  have haw : aw t (v 0) ≤ 30000 := by unfold aw; split <;> omega
  rw [e8]
  by_cases c : aw t (v 0) ≤ v 1
  · refine ⟨upd G 6 (nr + 1), U, ?_, ?_, ?_, ?_, fun i hi => pk_un hi⟩
    · rw [if_neg (nI_nlt c (by omega)), f_L_shoots_J302, if_neg (by decide), f_L_shoots_J319, cN (n := 6) (by decide), h6, lt_v, gd_t (by decide), lt_v, if_neg (by decide)]
    · have : buJ v t b0 = b0 := by unfold buJ; rw [if_pos c]
      rw [this, ite_self]; exact h0
    · have : buJ v t b1 = b1 := by unfold buJ; rw [if_pos c]
      rw [this, ite_self]; exact h1
    · rw [pk_us]; unfold nrJ; rw [if_pos c]
  · have hn : nrJ v t nr = nr := by unfold nrJ; rw [if_neg c]
    have st : (if nI (v 1) < nI (aw t (v 0)) then f_L_shoots_J302 (nI t) (0 : Int32) G U E T X σ else f_L_shoots_J302 (nI t) (1 : Int32) G U E T X σ) = (if nI (v 5) = 1 then (f_L_correct (nI b) (nI t) (upd G 6 nr) U).bind fun q => f_L_shoots_J345 (nI t) (upd G 6 nr) q E T X σ else f_L_shoots_J345 (nI t) (upd G 6 nr) U E T X σ) := by
      rw [if_pos (nI_lt (by omega) (by omega)), f_L_shoots_J302, if_pos rfl, f_L_shoots_J319, cN (n := 6) (by decide), h6, Int32.add_zero, lt_v, gd_t (by decide), lt_v, if_pos rfl, cN (n := 12) (by decide), cN (n := 0) (by decide), pk_un (by decide), e12, hX]
    rw [st]
    by_cases c5 : v 5 = 1
    · have hx : buE b (bsel b0 b1 b) U := by
        unfold bsel
        rcases (show b = 0 ∨ b = 1 by omega) with rfl | rfl
        · rw [if_pos rfl]; exact h0
        · rw [if_neg (by decide)]; exact h1
      have hxk : buK (bsel b0 b1 b) := bsel_K b k0 k1
      have hc := L_correct (G := upd G 6 nr) hb hx hxk ((pk_un (by decide)).trans e7) ht s1 s2
      have hJ : ∀ x : Bu, buJ v t x = buX x t (v 0) := fun x => by unfold buJ; rw [if_neg c, if_pos c5]
      rw [if_pos (by rw [c5]; rfl), hc, Option.bind_some, hJ, hJ, hn]
      refine ⟨upd G 6 nr, _, rfl, ?_, ?_, pk_us, fun i hi => pk_un hi⟩
      · rcases (show b = 0 ∨ b = 1 by omega) with rfl | rfl
        · rw [if_pos rfl]
          refine ⟨?_, ?_, ?_, pk_us⟩
          · rw [pk_un (by decide), pk_us]; rfl
          · rw [pk_un (by decide), pk_un (by decide)]; exact h0.2.1
          · rw [pk_un (by decide), pk_un (by decide)]; exact h0.2.2.1
        · rw [if_neg (by decide)]
          refine ⟨?_, ?_, ?_, ?_⟩
          · rw [pk_un (by decide), pk_un (by decide)]; exact h0.1
          · rw [pk_un (by decide), pk_un (by decide)]; exact h0.2.1
          · rw [pk_un (by decide), pk_un (by decide)]; exact h0.2.2.1
          · rw [pk_un (by decide), pk_un (by decide)]; exact h0.2.2.2
      · rcases (show b = 0 ∨ b = 1 by omega) with rfl | rfl
        · rw [if_pos rfl]
          refine ⟨?_, ?_, ?_, ?_⟩
          · rw [pk_un (by decide), pk_un (by decide)]; exact h1.1
          · rw [pk_un (by decide), pk_un (by decide)]; exact h1.2.1
          · rw [pk_un (by decide), pk_un (by decide)]; exact h1.2.2.1
          · rw [pk_un (by decide), pk_un (by decide)]; exact h1.2.2.2
        · rw [if_neg (by decide)]
          refine ⟨?_, ?_, ?_, pk_us⟩
          · rw [pk_un (by decide), pk_us]; rfl
          · rw [pk_un (by decide), pk_un (by decide)]; exact h1.2.1
          · rw [pk_un (by decide), pk_un (by decide)]; exact h1.2.2.1
    · have hJ : ∀ x : Bu, buJ v t x = x := fun x => by unfold buJ; rw [if_neg c, if_neg c5]
      rw [if_neg (show ¬ nI (v 5) = 1 from fun q => c5 ((nI_eq (b := 1) (by omega) (by decide)).mp q)), hJ, hJ, ite_self, ite_self, hn]
      exact ⟨upd G 6 nr, U, rfl, h0, h1, pk_us, fun i hi => pk_un hi⟩
theorem L_shE {K : List Sh} {T X T1 X1 T2 X2 : Nat → Int32} {s : Sh} (hK : K.length ≤ 12) (h : shE K T X) (c2 : ∀ k, 3 ≤ k → k ≤ 35 → T1 k = T (k - 3)) (b2 : ∀ k, 4 ≤ k → k ≤ 47 → X1 k = X (k - 4)) (t0 : T2 0 = s.1) (t1 : T2 1 = nI s.2.1) (t2 : T2 2 = s.2.2.1) (tr : ∀ k, 3 ≤ k → T2 k = T1 k) (x0 : X2 0 = s.2.2.2.1) (x1 : X2 1 = s.2.2.2.2.1) (x2 : X2 2 = s.2.2.2.2.2.1) (x3 : X2 3 = s.2.2.2.2.2.2) (xr : ∀ k, 4 ≤ k → X2 k = X1 k) : shE ((s :: K).take 12) T2 X2 := by
  intro k hk
  have hk12 : k < 12 := by
    rw [List.length_take] at hk
    omega
  rw [sk0_t _ hk12]
  cases k with
  | zero => rw [sk0_0]; exact ⟨t0, t1, t2, x0, x1, x2, x3⟩
  | succ k =>
    rw [sk0_s]
    rw [List.length_take, List.length_cons] at hk
    obtain ⟨d1, d2, d3, d4, d5, d6, d7⟩ := h k (by omega)
    refine ⟨?_, ?_, ?_, ?_, ?_, ?_, ?_⟩
    · rw [tr _ (by omega), c2 _ (by omega) (by omega), ← d1]; congr 1
    · rw [tr _ (by omega), c2 _ (by omega) (by omega), ← d2]; congr 1
    · rw [tr _ (by omega), c2 _ (by omega) (by omega), ← d3]; congr 1
    · rw [xr _ (by omega), b2 _ (by omega) (by omega), ← d4]; congr 1
    · rw [xr _ (by omega), b2 _ (by omega) (by omega), ← d5]; congr 1
    · rw [xr _ (by omega), b2 _ (by omega) (by omega), ← d6]; congr 1
    · rw [xr _ (by omega), b2 _ (by omega) (by omega), ← d7]; congr 1
theorem tot_pos {L : List (Nat × Nat)} (h : okR L) (h0 : L.length ≠ 0) : 0 < tot L := by have := len_tot h; omega
theorem L_shoots {σ : Sp} {G U H C E T X : Nat → Int32} (hR : LR σ G U H C E T X) (hk : KK σ (v_se σ)) (hse : v_se σ < 2 ^ 26) (hK : (v_K σ).length ≤ 12) (hlen : (v_ba σ).length ≤ 63) :
    ∃ G' U' E' T' X' σ', f_L_shoots G U E T X σ = some (1, G', U', E', T', X', σ') ∧ LR σ' G' U' H C E' T' X' ∧ (σ' = σ ∨ (σ' = o_shot σ ∧ tot (v_ba σ) ≠ 0)) := by
  obtain ⟨m1, m2, m3, m4, m5, m6, m7, m8, m9, m10, m11, m12, m13, m14, m15⟩ := id hR
  obtain ⟨k1, k2, k3, k4, k5, k6, k7, k8, k9, k10, k11, k12, k13, k14⟩ := id hk
  have l2 := len_tot k8
  rw [f_L_shoots, cN (n := 0) (by decide), m5.1]
  by_cases c0 : (v_ba σ).length = 0
  · have ht : tot (v_ba σ) = 0 := by rw [List.length_eq_zero_iff.mp c0]; rfl
    have ha : a_shot (v_st σ) (v_ba σ) = cNP := by unfold a_shot; rw [if_pos ht]
    rw [if_pos (by rw [c0]; exact nI_0), Q_shot, QO, gd_t (by omega), ha, if_neg (by decide), Option.bind_some, if_pos rfl]
    exact ⟨G, U, E, T, X, σ, rfl, hR, Or.inl rfl⟩
  · have ht := tot_pos k8 c0
    have okE1 : okE (v_ba σ) := okE_of k8 k9 (by omega)
    have htm := timeS_le k13 (v_ba σ)
    have fB := fN_sum isB (v_ba σ)
    have fK := fN_sum isK (v_ba σ)
    have bB := mostly_lt isB (v_ba σ)
    have bK := mostly_lt isK (v_ba σ)
    have ha : a_shot (v_st σ) (v_ba σ) = nI (timeS (v_st σ) (v_ba σ)) := by unfold a_shot; rw [if_neg (by omega)]
    have hQ : Q_shot σ = some (nI (timeS (v_st σ) (v_ba σ)), o_shot σ) := by rw [Q_shot, QO, gd_t (by omega), ha, if_pos (nI_pos' (by omega))]
    rw [if_neg (nI_ne0 (by omega) (by omega)), L_brew m9 k13 m5 okE1 hlen k10 ht, Option.bind_some, L_amounts m5 okE1 hlen, Option.bind_some]
    generalize hgt : timeS (v_st σ) (v_ba σ) = t at *
    obtain ⟨X1, b1, b2, b3⟩ := L_sh121 (G := G) (U := U) (E := E) (T := T) (σ := σ) (y6 := nI t) (y7 := nI (tot (v_ba σ))) (y8 := nI (0 + fN isB (v_ba σ))) (y9 := nI (0 + fN isK (v_ba σ))) 44 FU X (Nat.le_refl _) (by show 44 < 20000; omega)
    obtain ⟨T1, c1, c2, c3⟩ := L_sh149 (G := G) (U := U) (E := E) (X := X1) (σ := σ) (y6 := nI t) (y7 := nI (tot (v_ba σ))) (y8 := nI (0 + fN isB (v_ba σ))) (y9 := nI (0 + fN isK (v_ba σ))) 33 FU T (Nat.le_refl _) (by show 33 < 20000; omega)
    have s1 : f_L_shoots_L43 (nI t) (nI (tot (v_ba σ))) FU (0 : Int32) (0 : Int32) (1 : Int32) G U E T X σ = LS1 (nI t) (nI (tot (v_ba σ))) (nI (fN isB (v_ba σ))) (nI (fN isK (v_ba σ))) G U E T1 X1 σ := by
      have h43 := L_sh43 (G := G) (U := U) (T := T) (X := X) (σ := σ) (y6 := nI t) (y7 := nI (tot (v_ba σ))) m5 okE1 hlen (v_ba σ).length 0 0 0 FU (v_ba σ) rfl (by omega) (fun k _ => by rw [Nat.zero_add]) (by show _ < 20000; omega)
      have e1 := (h43.trans b1).trans c1
      rw [Nat.zero_add (fN isB (v_ba σ)), Nat.zero_add (fN isK (v_ba σ))] at e1
      exact e1
    have s2 : LS1 (nI t) (nI (tot (v_ba σ))) (nI (fN isB (v_ba σ))) (nI (fN isK (v_ba σ))) G U E T1 X1 σ = f_L_shoots_J210 (nI t) (nI (tot (v_ba σ))) (nI (fN isK (v_ba σ))) (nI (mostly isB (v_ba σ))) 0 G U E (upd (upd (upd T1 0 (G 5)) 1 (nI t)) 2 (nI (tot (v_ba σ)))) X1 σ := by
      rw [LS1, pk_sub (by omega), mostly_fN isB]
      by_cases c : fN isB (v_ba σ) < tot (v_ba σ) - fN isB (v_ba σ)
      · rw [if_pos (nI_lt c (by omega)), if_pos c]; rfl
      · rw [if_neg (nI_nlt (by omega) (by omega)), if_neg c]; rfl
    generalize hT2 : upd (upd (upd T1 0 (G 5)) 1 (nI t)) 2 (nI (tot (v_ba σ))) = T2 at s2
    have s3 : f_L_shoots_J210 (nI t) (nI (tot (v_ba σ))) (nI (fN isK (v_ba σ))) (nI (mostly isB (v_ba σ))) 0 G U E T2 X1 σ = f_L_shoots_J229 (nI t) (nI (tot (v_ba σ))) (nI (mostly isK (v_ba σ))) 1 G U E T2 (upd X1 0 (nI (mostly isB (v_ba σ)))) σ := by
      rw [f_L_shoots_J210, gd_t (by decide), lt_v, cN (n := 0) (by decide), pk_sub (by omega), mostly_fN isK]
      by_cases c : fN isK (v_ba σ) < tot (v_ba σ) - fN isK (v_ba σ)
      · rw [if_pos (nI_lt c (by omega)), if_pos c]; rfl
      · rw [if_neg (nI_nlt (by omega) (by omega)), if_neg c]; rfl
    have s4 : f_L_shoots_J229 (nI t) (nI (tot (v_ba σ))) (nI (mostly isK (v_ba σ))) 1 G U E T2 (upd X1 0 (nI (mostly isB (v_ba σ)))) σ = f_L_shoots_J263 (nI t) (nI (tot (v_ba σ))) (nI (if 12 ≤ (v_K σ).length then 0 else 1)) (nI (v_K σ).length) 14 G U E T2 (upd (upd (upd (upd X1 0 (nI (mostly isB (v_ba σ)))) 1 (nI (mostly isK (v_ba σ)))) 2 (G 0)) 3 (E 0)) σ := by
      rw [f_L_shoots_J229, gd_t (by decide)]
      simp only [lt_v, cN (n := 0) (by decide), cN (n := 1) (by decide), cN (n := 2) (by decide), cN (n := 3) (by decide), cN (n := 14) (by decide)]
      rw [m7]
      by_cases c : 12 ≤ (v_K σ).length
      · rw [if_pos (show (12 : Int32) ≤ nI (v_K σ).length from nI_le (a := 12) c (by omega)), if_pos c]; rfl
      · rw [if_neg (show ¬ (12 : Int32) ≤ nI (v_K σ).length from nI_ge (b := 12) (by omega) (by decide)), if_neg c]; rfl
    generalize hX2 : upd (upd (upd (upd X1 0 (nI (mostly isB (v_ba σ)))) 1 (nI (mostly isK (v_ba σ)))) 2 (G 0)) 3 (E 0) = X2 at s4
    generalize hG3 : upd (upd (upd G 14 (nI (min 12 ((v_K σ).length + 1)))) 5 (v_mk σ + 1)) 3 (v_br σ + nI (tot (v_ba σ))) = G3
    have g3 : ∀ i, i ≠ 3 → i ≠ 5 → i ≠ 14 → G3 i = G i := fun i i3 i5 i14 => by rw [← hG3, pk_un i3, pk_un i5, pk_un i14]
    have hs3 : stE (v_st σ) G3 := fun k hk => (g3 _ (by omega) (by omega) (by omega)).trans (m9 k hk)
    have s5 : f_L_shoots_J263 (nI t) (nI (tot (v_ba σ))) (nI (if 12 ≤ (v_K σ).length then 0 else 1)) (nI (v_K σ).length) 14 G U E T2 X2 σ = (if (G3 8) < nI (aw t (v_st σ 0)) then f_L_shoots_J302 (nI t) (0 : Int32) G3 U (upd E 0 0) T2 X2 σ else f_L_shoots_J302 (nI t) (1 : Int32) G3 U (upd E 0 0) T2 X2 σ) := by
      have e14 : nI (v_K σ).length + nI (if 12 ≤ (v_K σ).length then 0 else 1) = nI (min 12 ((v_K σ).length + 1)) := by
        rw [nI_add]
        refine nI_inj ?_
        split <;> omega
      have u5 : upd G 14 (nI (min 12 ((v_K σ).length + 1))) 5 = v_mk σ := (pk_un (by decide)).trans m8
      have u3 : upd (upd G 14 (nI (min 12 ((v_K σ).length + 1)))) 5 (v_mk σ + 1) 3 = v_br σ := ((pk_un (by decide)).trans (pk_un (by decide))).trans m13
      rw [f_L_shoots_J263]
      simp only [lt_v]
      rw [gd_t (by decide)]
      simp only [cN (n := 0) (by decide), cN (n := 3) (by decide), cN (n := 5) (by decide), cN (n := 8) (by decide), cN (n := 14) (by decide)]
      rw [e14, u5, u3, hG3, L_away (hs3 0 (by decide)) (by omega) (by have := k13.2.1; omega), Option.bind_some]
    have hX0 : X2 0 = nI (mostly isB (v_ba σ)) := by rw [← hX2, pk_un (by decide), pk_un (by decide), pk_un (by decide), pk_us]
    obtain ⟨G4, U4, j1, j2, j3, j4, j5⟩ := L_judge (nr := v_nr σ) (E := upd E 0 0) (T := T2) (σ := σ) hs3 k13 htm bB m2 m3 k11 k12 ((g3 6 (by decide) (by decide) (by decide)).trans m15) hX0
    have w0 : (if mostly isB (v_ba σ) = 0 then buJ (v_st σ) t (v_b0 σ) else v_b0 σ).2.1 = (v_b0 σ).2.1 := by split; exact buJ_w _ _ _; rfl
    have w1 : (if mostly isB (v_ba σ) = 0 then v_b1 σ else buJ (v_st σ) t (v_b1 σ)).2.1 = (v_b1 σ).2.1 := by split; rfl; exact buJ_w _ _ _
    obtain ⟨G5, U5, p1, p2, p3, p4, p5, p6⟩ := L_pass (n := t / 10) (t := v_se σ) (by omega) ((j5 0 (by decide)).trans ((g3 0 (by decide) (by decide) (by decide)).trans m10)) (j2.2.1.trans (by rw [w0])) (j3.2.1.trans (by rw [w1])) (by omega) k11.2.2 k12.2.2
    have s6 : f_L_shoots_J345 (nI t) G4 U4 (upd E 0 0) T2 X2 σ = some (1, G5, U5, upd E 0 0, T2, X2, o_shot σ) := by
      rw [f_L_shoots_J345, fa_lit 10, pk_div (by omega) (by decide) (by decide), p1, Option.bind_some, hQ, Option.bind_some, if_pos rfl]
    refine ⟨G5, U5, upd E 0 0, T2, X2, o_shot σ, ?_, ?_, Or.inr ⟨rfl, by omega⟩⟩
    · rw [s1, s2, s3, s4, s5, j1, s6]
    · have gg : ∀ i, i ≠ 0 → i ≠ 6 → i ≠ 3 → i ≠ 5 → i ≠ 14 → G5 i = G i := fun i i0 i6 i3 i5 i14 => (p5 i i0).trans ((j5 i i6).trans (g3 i i3 i5 i14))
      have g3' : ∀ i, i ≠ 0 → i ≠ 6 → G5 i = G3 i := fun i i0 i6 => (p5 i i0).trans (j5 i i6)
      refine ⟨⟨(gg 13 (by decide) (by decide) (by decide) (by decide) (by decide)).trans m1.1, m1.2⟩, ?_, ?_, m4, ⟨pk_us, fun k hk => absurd hk (Nat.not_lt_zero k)⟩, ?_, ?_, ?_, fun k hk => (gg _ (by omega) (by omega) (by omega) (by omega) (by omega)).trans (m9 k hk), ?_, (gg 1 (by decide) (by decide) (by decide) (by decide) (by decide)).trans m11, (gg 2 (by decide) (by decide) (by decide) (by decide) (by decide)).trans m12, ?_, (gg 4 (by decide) (by decide) (by decide) (by decide) (by decide)).trans m14, ?_⟩
      · show buE 0 (bs0 (v_st σ) (timeS (v_st σ) (v_ba σ)) (mostly isB (v_ba σ)) (tmz (v_se σ) (timeS (v_st σ) (v_ba σ) / 10)) (v_b0 σ)) U5
        rw [hgt]
        unfold bs0 buC
        exact ⟨(p6 0 (by decide) (by decide)).trans j2.1, (by rw [w0]; exact p3), (p6 2 (by decide) (by decide)).trans j2.2.2.1, (p6 3 (by decide) (by decide)).trans j2.2.2.2⟩
      · show buE 1 (bs1 (v_st σ) (timeS (v_st σ) (v_ba σ)) (mostly isB (v_ba σ)) (tmz (v_se σ) (timeS (v_st σ) (v_ba σ) / 10)) (v_b1 σ)) U5
        rw [hgt]
        unfold bs1 buC
        exact ⟨(p6 4 (by decide) (by decide)).trans j3.1, (by rw [w1]; exact p4), (p6 6 (by decide) (by decide)).trans j3.2.2.1, (p6 7 (by decide) (by decide)).trans j3.2.2.2⟩
      · refine L_shE hK m6 (fun k h1 h2 => c2 k h1 (by omega)) (fun k h1 h2 => b2 k h1 (by omega)) ?_ ?_ ?_ ?_ ?_ ?_ ?_ ?_ ?_
        · rw [← hT2, pk_un (by decide), pk_un (by decide), pk_us]; exact m8
        · rw [← hT2, pk_un (by decide), pk_us]; exact congrArg nI hgt.symm
        · rw [← hT2, pk_us]; rfl
        · intro k hk3; rw [← hT2, pk_un (by omega), pk_un (by omega), pk_un (by omega)]
        · exact hX0
        · rw [← hX2, pk_un (by decide), pk_un (by decide), pk_us]; rfl
        · rw [← hX2, pk_un (by decide), pk_us]; exact m10
        · rw [← hX2, pk_us]; exact m5.1
        · intro k hk4; rw [← hX2, pk_un (by omega), pk_un (by omega), pk_un (by omega), pk_un (by omega)]
      · rw [g3' 14 (by decide) (by decide), ← hG3, pk_un (by decide), pk_un (by decide), pk_us]
        refine nI_inj ?_
        show _ = ((shotN (v_st σ) (v_ba σ) (v_mk σ) (v_se σ) :: v_K σ).take 12).length
        rw [List.length_take, List.length_cons]
      · rw [g3' 5 (by decide) (by decide), ← hG3, pk_un (by decide), pk_us]; rfl
      · rw [p2]
        show nI (v_se σ + t / 10) = nI (v_se σ + timeS (v_st σ) (v_ba σ) / 10)
        rw [hgt]
      · rw [g3' 3 (by decide) (by decide), ← hG3, pk_us]; rfl
      · rw [p5 6 (by decide), j4]
        show nrJ (v_st σ) t (v_nr σ) = nrJ (v_st σ) (timeS (v_st σ) (v_ba σ)) (v_nr σ)
        rw [hgt]
