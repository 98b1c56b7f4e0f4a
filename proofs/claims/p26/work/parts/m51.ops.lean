/-! the object's methods, as the law's methods use them -/
set_option maxRecDepth 100000 in
theorem oo_mk {cI cC : ClassId} {t0 t1 t2 t3 nw sp yl ys yt yo n : Nat} {aN aS al as_ at_ ao : Nat → Nat} {sg : Nat → Int32} {oA oC oF oS oD oP oR oU : Int32} {gN gS gl gs gt go : Gr} {w0 : va_W} {σ σ' : Sp} {a : Int32} {R : Int32 × Nat × Nat × Nat × Nat × Nat × Nat × Int32 × Gr} (K : va_W → va_W → Prop) (hpm : (((w_ob cC t0 t1 t2 t3 nw sp yl ys yt yo (nI n) sg oA oC oF oS oD oP oR oU ++ w_gr cI cC nw aN gN ++ w_gr cI cC sp aS gS) ++ w_hs cI cC yl ys yt yo al as_ at_ ao gl gs gt go).map Prod.fst).Perm (w0.map Prod.fst)) (hg : GR σ gN) (hk : KK σ (v_se σ)) (hn : n ≤ 4) (p : PCH σ' a nw sp yl ys yt yo n R) (hk' : 0 ≤ a → KK σ' (v_se σ')) (hK : K ([(t0, .inr (7, [.ref t1, .ref t2, .ref nw, .ref sp])), (t1, .inr (2, [.ref yl, .ref ys, .ref yt, .ref yo, .int (nI n)]))] ++ w_gr cI cC nw aN gN ++ w_gr cI cC sp aS gS) ([(t0, .inr (7, [.ref t1, .ref t2, .ref R.2.1, .ref R.2.2.1])), (t1, .inr (2, [.ref R.2.2.2.1, .ref R.2.2.2.2.1, .ref R.2.2.2.2.2.1, .ref R.2.2.2.2.2.2.1, .int R.2.2.2.2.2.2.2.1]))] ++ w_gr cI cC nw aN gN ++ w_gr cI cC sp aS R.2.2.2.2.2.2.2.2)) : OO cI cC t0 w0 ((w_ob cC t0 t1 t2 t3 nw sp yl ys yt yo (nI n) sg oA oC oF oS oD oP oR oU ++ w_gr cI cC nw aN gN ++ w_gr cI cC sp aS gS) ++ w_hs cI cC yl ys yt yo al as_ at_ ao gl gs gt go) K (if 0 ≤ a then σ' else σ) := by
  have key : ∃ w' : va_W, ((w_ob cC t0 t1 t2 t3 R.2.1 R.2.2.1 R.2.2.2.1 R.2.2.2.2.1 R.2.2.2.2.2.1 R.2.2.2.2.2.2.1 R.2.2.2.2.2.2.2.1 sg oA oC oF oS oD oP oR oU ++ w_gr cI cC nw aN gN ++ w_gr cI cC sp aS R.2.2.2.2.2.2.2.2) ++ w_hs cI cC yl ys yt yo al as_ at_ ao gl gs gt go).Perm w' ∧ OB cI cC t0 w0 (if 0 ≤ a then σ' else σ) w' := by
    obtain ⟨p1, p2, p3⟩ := p
    by_cases c : 0 ≤ a
    · obtain ⟨e1, e2, e3, e4, e5, e6, e7, hg'⟩ := p3 c
      rw [if_pos c, e1, e2, e3, e4, e5, e6, e7]
      refine ⟨_, pm_chg _ _ _ _ _ _ _, t1, t2, t3, aS, ao, aN, al, as_, at_, sp, yo, nw, yl, ys, yt, min 4 (n + 1), sg, oA, oC, oF, oS, oD, oP, oR, oU, R.2.2.2.2.2.2.2.2, go, gN, gl, gs, gt, rfl, ?_, hg', hk' c, by omega⟩
      refine List.Perm.trans ?_ hpm
      simp only [w_hs, List.map_append, map_gr]
      exact (pm_chg [t0, t1, t2, t3] (ad_gr nw aN) (ad_gr sp aS) (ad_gr yl al) (ad_gr ys as_) (ad_gr yt at_) (ad_gr yo ao)).symm
    · obtain ⟨e1, e2, e3, e4, e5, e6, e7⟩ := p2 (Int32.not_le.mp c)
      rw [if_neg c, e1, e2, e3, e4, e5, e6, e7]
      refine ⟨_, List.Perm.refl _, t1, t2, t3, aN, aS, al, as_, at_, ao, nw, sp, yl, ys, yt, yo, n, sg, oA, oC, oF, oS, oD, oP, oR, oU, gN, R.2.2.2.2.2.2.2.2, gl, gs, gt, go, rfl, ?_, hg, hk, hn⟩
      refine List.Perm.trans (List.Perm.of_eq ?_) hpm
      simp only [List.map_append, map_gr]
  obtain ⟨w', hp, hO⟩ := key
  exact ⟨[0, 1, 4, 5, 6, 7, 8, 9, 10, 11, 12, 13, 14, 15, 16, 17, 18, 19, 20, 21, 22, 23, 24, 25, 26, 27, 28, 29, 30, 31, 32, 33, 34, 35], [2, 3], _, _, [(t2, .inr (4, [.ref t3, .int 0, .int oA, .int oC, .int oF, .int oS, .int oD, .int oP, .int oR, .int oU])), (t3, .inl (cC, 60, .inl sg))], w_ob cC t0 t1 t2 t3 nw sp yl ys yt yo (nI n) sg oA oC oF oS oD oP oR oU ++ w_gr cI cC nw aN gN ++ w_gr cI cC sp aS gS, w_ob cC t0 t1 t2 t3 R.2.1 R.2.2.1 R.2.2.2.1 R.2.2.2.2.1 R.2.2.2.2.2.1 R.2.2.2.2.2.2.1 R.2.2.2.2.2.2.2.1 sg oA oC oF oS oD oP oR oU ++ w_gr cI cC nw aN gN ++ w_gr cI cC sp aS R.2.2.2.2.2.2.2.2, _, w', 36, _, rfl, rfl, by decide +kernel, (hA2 [t0, t1, nw, aN 1, aN 2, aN 3, aN 4, aN 5, aN 6, aN 7, aN 8, aN 9, aN 10, aN 11, aN 12, aN 13, aN 14, aN 15, sp, aS 1, aS 2, aS 3, aS 4, aS 5, aS 6, aS 7, aS 8, aS 9, aS 10, aS 11, aS 12, aS 13, aS 14, aS 15] rfl rfl), rfl, rfl, rfl, rfl, rfl, by decide +kernel, rfl, hK, hp, hO⟩
set_option maxRecDepth 100000 in
theorem oo_fill {cI cC : ClassId} {D : va_G} {l : Launch} {t0 : Nat} {w0 w : va_W} {σ : Sp} (hT : OB cI cC t0 w0 σ w) (x1 x2 : Int32) (Z : Int32 × Sp) (h : Q_fill x1 x2 σ = some Z) : OO cI cC t0 w0 w (fun wc wn => WrI l yX7_fill wsX7_fill rmX7_fill D cI cC wc wn [.ref t0, .int x1, .int x2] Z.1) Z.2 := by
  obtain ⟨t1, t2, t3, aN, aS, al, as_, at_, ao, nw, sp, yl, ys, yt, yo, n, sg, oA, oC, oF, oS, oD, oP, oR, oU, gN, gS, gl, gs, gt, go, rfl, hpm, hg, hk, hn⟩ := hT
  obtain ⟨hB, e⟩ := gd_s h
  obtain rfl := Option.some.inj e
  obtain ⟨R, e, p⟩ := p_chg (gS := gS) (nw := nw) (sp := sp) (yl := yl) (ys := ys) (yt := yt) (yo := yo) (F_X1_fillIn x1 x2) hg hk hn (fun g q => G_fillIn q hk x1 x2)
  refine oo_mk _ hpm hg hk hn p (fun q => KK_self (K_fill hk q)) ?_
  have hc := c_X7_fill (l := l) (D := D) (cI := cI) (cC := cC) t0 t1 t2 aN aS x1 x2 nw sp yl ys yt yo (nI n) gN gS R e
  rw [p.1] at hc
  exact hc
set_option maxRecDepth 100000 in
theorem oo_grind {cI cC : ClassId} {D : va_G} {l : Launch} {t0 : Nat} {w0 w : va_W} {σ : Sp} (hT : OB cI cC t0 w0 σ w) (x1 x2 : Int32) (Z : Int32 × Sp) (h : Q_grind x1 x2 σ = some Z) : OO cI cC t0 w0 w (fun wc wn => WrI l yX7_grind wsX7_grind rmX7_grind D cI cC wc wn [.ref t0, .int x1, .int x2] Z.1) Z.2 := by
  obtain ⟨t1, t2, t3, aN, aS, al, as_, at_, ao, nw, sp, yl, ys, yt, yo, n, sg, oA, oC, oF, oS, oD, oP, oR, oU, gN, gS, gl, gs, gt, go, rfl, hpm, hg, hk, hn⟩ := hT
  obtain ⟨hB, e⟩ := gd_s h
  obtain rfl := Option.some.inj e
  obtain ⟨R, e, p⟩ := p_chg (gS := gS) (nw := nw) (sp := sp) (yl := yl) (ys := ys) (yt := yt) (yo := yo) (F_X1_grindBy x1 x2) hg hk hn (fun g q => G_grindBy q hk (by omega) x1 x2)
  refine oo_mk _ hpm hg hk hn p (fun q => KK_self (K_grind hk q)) ?_
  have hc := c_X7_grind (l := l) (D := D) (cI := cI) (cC := cC) t0 t1 t2 aN aS x1 x2 nw sp yl ys yt yo (nI n) gN gS R e
  rw [p.1] at hc
  exact hc
set_option maxRecDepth 100000 in
theorem oo_dial {cI cC : ClassId} {D : va_G} {l : Launch} {t0 : Nat} {w0 w : va_W} {σ : Sp} (hT : OB cI cC t0 w0 σ w) (x1 x2 : Int32) (Z : Int32 × Sp) (h : Q_dial x1 x2 σ = some Z) : OO cI cC t0 w0 w (fun wc wn => WrI l yX7_dial wsX7_dial rmX7_dial D cI cC wc wn [.ref t0, .int x1, .int x2] Z.1) Z.2 := by
  obtain ⟨t1, t2, t3, aN, aS, al, as_, at_, ao, nw, sp, yl, ys, yt, yo, n, sg, oA, oC, oF, oS, oD, oP, oR, oU, gN, gS, gl, gs, gt, go, rfl, hpm, hg, hk, hn⟩ := hT
  obtain ⟨hB, e⟩ := gd_s h
  obtain rfl := Option.some.inj e
  obtain ⟨R, e, p⟩ := p_chg (gS := gS) (nw := nw) (sp := sp) (yl := yl) (ys := ys) (yt := yt) (yo := yo) (F_X1_turnDial x1 x2) hg hk hn (fun g q => G_turnDial q hk x1 x2)
  refine oo_mk _ hpm hg hk hn p (fun q => KK_self (K_dial hk q)) ?_
  have hc := c_X7_dial (l := l) (D := D) (cI := cI) (cC := cC) t0 t1 t2 aN aS x1 x2 nw sp yl ys yt yo (nI n) gN gS R e
  rw [p.1] at hc
  exact hc
set_option maxRecDepth 100000 in
theorem oo_rest {cI cC : ClassId} {D : va_G} {l : Launch} {t0 : Nat} {w0 w : va_W} {σ : Sp} (hT : OB cI cC t0 w0 σ w) (x1 : Int32) (Z : Int32 × Sp) (h : Q_rest x1 σ = some Z) : OO cI cC t0 w0 w (fun wc wn => WrI l yX7_rest wsX7_rest rmX7_rest D cI cC wc wn [.ref t0, .int x1] Z.1) Z.2 := by
  obtain ⟨t1, t2, t3, aN, aS, al, as_, at_, ao, nw, sp, yl, ys, yt, yo, n, sg, oA, oC, oF, oS, oD, oP, oR, oU, gN, gS, gl, gs, gt, go, rfl, hpm, hg, hk, hn⟩ := hT
  obtain ⟨hB, e⟩ := gd_s h
  obtain rfl := Option.some.inj e
  obtain ⟨R, e, p⟩ := p_chg (gS := gS) (nw := nw) (sp := sp) (yl := yl) (ys := ys) (yt := yt) (yo := yo) (F_X1_letPass x1) hg hk hn (fun g q => G_letPass q hk (by omega) x1)
  refine oo_mk _ hpm hg hk hn p (fun q => KK_self (K_rest hk q)) ?_
  have hc := c_X7_rest (l := l) (D := D) (cI := cI) (cC := cC) t0 t1 t2 aN aS x1 nw sp yl ys yt yo (nI n) gN gS R e
  rw [p.1] at hc
  exact hc
set_option maxRecDepth 100000 in
theorem oo_shot {cI cC : ClassId} {D : va_G} {l : Launch} {t0 : Nat} {w0 w : va_W} {σ : Sp} (hT : OB cI cC t0 w0 σ w) (Z : Int32 × Sp) (h : Q_shot σ = some Z) : OO cI cC t0 w0 w (fun wc wn => WrI l yX7_shot wsX7_shot rmX7_shot D cI cC wc wn [.ref t0] Z.1) Z.2 := by
  obtain ⟨t1, t2, t3, aN, aS, al, as_, at_, ao, nw, sp, yl, ys, yt, yo, n, sg, oA, oC, oF, oS, oD, oP, oR, oU, gN, gS, gl, gs, gt, go, rfl, hpm, hg, hk, hn⟩ := hT
  obtain ⟨hB, e⟩ := gd_s h
  obtain rfl := Option.some.inj e
  obtain ⟨R, e, p⟩ := p_chg (gS := gS) (nw := nw) (sp := sp) (yl := yl) (ys := ys) (yt := yt) (yo := yo) F_X1_makeShot hg hk hn (fun g q => by obtain ⟨R, z1, z2, z3⟩ := G_makeShot q hk (by omega); exact ⟨R, z1, z2, fun z => (z3 z).2⟩)
  refine oo_mk _ hpm hg hk hn p (fun _ => KK_self (K_shot hk)) ?_
  have hc := c_X7_shot (l := l) (D := D) (cI := cI) (cC := cC) t0 t1 t2 aN aS nw sp yl ys yt yo (nI n) gN gS R e
  rw [p.1] at hc
  exact hc
set_option maxRecDepth 100000 in
theorem oo_purge {cI cC : ClassId} {D : va_G} {l : Launch} {t0 : Nat} {w0 w : va_W} {σ : Sp} (hT : OB cI cC t0 w0 σ w) (Z : Int32 × Sp) (h : Q_purge σ = some Z) : OO cI cC t0 w0 w (fun wc wn => WrI l yX7_purge wsX7_purge rmX7_purge D cI cC wc wn [.ref t0] Z.1) Z.2 := by
  obtain ⟨t1, t2, t3, aN, aS, al, as_, at_, ao, nw, sp, yl, ys, yt, yo, n, sg, oA, oC, oF, oS, oD, oP, oR, oU, gN, gS, gl, gs, gt, go, rfl, hpm, hg, hk, hn⟩ := hT
  obtain ⟨hB, e⟩ := gd_s h
  obtain rfl := Option.some.inj e
  obtain ⟨R, e, p⟩ := p_chg (gS := gS) (nw := nw) (sp := sp) (yl := yl) (ys := ys) (yt := yt) (yo := yo) F_X1_emptyChute hg hk hn (fun g q => by obtain ⟨R, z1, z2, z3⟩ := G_emptyChute q; exact ⟨R, z1, z2, fun _ => z3⟩)
  refine oo_mk _ hpm hg hk hn p (fun _ => KK_self (K_purge hk)) ?_
  have hc := c_X7_purge (l := l) (D := D) (cI := cI) (cC := cC) t0 t1 t2 aN aS nw sp yl ys yt yo (nI n) gN gS R e
  rw [p.1] at hc
  exact hc
set_option maxRecDepth 100000 in
theorem oo_correct {cI cC : ClassId} {D : va_G} {l : Launch} {t0 : Nat} {w0 w : va_W} {σ : Sp} (hT : OB cI cC t0 w0 σ w) (x1 : Int32) (Z : Int32 × Sp) (h : Q_correct x1 σ = some Z) : OO cI cC t0 w0 w (fun wc wn => WrI l yX7_correct wsX7_correct rmX7_correct D cI cC wc wn [.ref t0, .int x1] Z.1) Z.2 := by
  obtain ⟨t1, t2, t3, aN, aS, al, as_, at_, ao, nw, sp, yl, ys, yt, yo, n, sg, oA, oC, oF, oS, oD, oP, oR, oU, gN, gS, gl, gs, gt, go, rfl, hpm, hg, hk, hn⟩ := hT
  obtain ⟨hB, e⟩ := gd_s h
  obtain rfl := Option.some.inj e
  obtain ⟨R, e, p⟩ := p_chg (gS := gS) (nw := nw) (sp := sp) (yl := yl) (ys := ys) (yt := yt) (yo := yo) (F_X1_correctByLatest x1) hg hk hn (fun g q => by obtain ⟨R, z1, z2, z3⟩ := G_correct q hk x1; exact ⟨R, z1, z2, fun z => (z3 z).2⟩)
  refine oo_mk _ hpm hg hk hn p (fun _ => KK_self (K_corr _ hk)) ?_
  have hc := c_X7_correct (l := l) (D := D) (cI := cI) (cC := cC) t0 t1 t2 aN aS x1 nw sp yl ys yt yo (nI n) gN gS R e
  rw [p.1] at hc
  exact hc
set_option maxRecDepth 100000 in
theorem oo_set {cI cC : ClassId} {D : va_G} {l : Launch} {t0 : Nat} {w0 w : va_W} {σ : Sp} (hT : OB cI cC t0 w0 σ w) (x1 x2 : Int32) (Z : Int32 × Sp) (h : Q_set x1 x2 σ = some Z) : OO cI cC t0 w0 w (fun wc wn => WrIS l yX7_set wsX7_set rmX7_set D cI cC wc wn [.ref t0, .int x1, .int x2] Z.1) Z.2 := by
  obtain ⟨t1, t2, t3, aN, aS, al, as_, at_, ao, nw, sp, yl, ys, yt, yo, n, sg, oA, oC, oF, oS, oD, oP, oR, oU, gN, gS, gl, gs, gt, go, rfl, hpm, hg, hk, hn⟩ := hT
  obtain ⟨hB, e⟩ := gd_s h
  obtain rfl := Option.some.inj e
  obtain ⟨R, e, p⟩ := p_chg (gS := gS) (nw := nw) (sp := sp) (yl := yl) (ys := ys) (yt := yt) (yo := yo) (F_X1_changeSetting x1 x2) hg hk hn (fun g q => G_changeSetting q x1 x2)
  refine oo_mk _ hpm hg hk hn p (fun q => KK_self (K_set hk q)) ?_
  have hc := c_X7_set (l := l) (D := D) (cI := cI) (cC := cC) t0 t1 t2 aN aS x1 x2 nw sp yl ys yt yo (nI n) gN gS R e
  rw [p.1] at hc
  exact hc
set_option maxRecDepth 100000 in
theorem oq_burrOf {cI cC : ClassId} {D : va_G} {l : Launch} {t0 : Nat} {w0 w : va_W} {σ : Sp} (hT : OB cI cC t0 w0 σ w) (x1 x2 : Int32) (r : Int32) (h : Q_burrOf x1 x2 σ = some r) : OQ t0 w (fun wc => RdI l yX7_burrOf wsX7_burrOf rmX7_burrOf D cI cC wc [.ref t0, .int x1, .int x2] r) := by
  obtain ⟨t1, t2, t3, aN, aS, al, as_, at_, ao, nw, sp, yl, ys, yt, yo, n, sg, oA, oC, oF, oS, oD, oP, oR, oU, gN, gS, gl, gs, gt, go, rfl, hpm, hg, hk, hn⟩ := hT
  obtain ⟨hlo, hb0, hb1, hch, hba, hK, hmk, hst, hse, hfi, hgr, hbr, hpu, hnr⟩ := hg
  obtain rfl := Option.some.inj h
  have e := p_burrOf' (σ := σ) (nw := nw) hb0 hb1 hk x1 x2
  have hc := c_X7_burrOf (l := l) (D := D) (cI := cI) (cC := cC) t0 t1 t2 aN x1 x2 nw sp gN.1 gN.2.1 gN.2.2.1 gN.2.2.2.1 gN.2.2.2.2.1 gN.2.2.2.2.2.1 gN.2.2.2.2.2.2.1 gN.2.2.2.2.2.2.2.1 gN.2.2.2.2.2.2.2.2.1 gN.2.2.2.2.2.2.2.2.2.1 gN.2.2.2.2.2.2.2.2.2.2.1 gN.2.2.2.2.2.2.2.2.2.2.2.1 gN.2.2.2.2.2.2.2.2.2.2.2.2.1 gN.2.2.2.2.2.2.2.2.2.2.2.2.2.1 gN.2.2.2.2.2.2.2.2.2.2.2.2.2.2.1 gN.2.2.2.2.2.2.2.2.2.2.2.2.2.2.2.1 gN.2.2.2.2.2.2.2.2.2.2.2.2.2.2.2.2.1 gN.2.2.2.2.2.2.2.2.2.2.2.2.2.2.2.2.2.1 gN.2.2.2.2.2.2.2.2.2.2.2.2.2.2.2.2.2.2.1 gN.2.2.2.2.2.2.2.2.2.2.2.2.2.2.2.2.2.2.2.1 gN.2.2.2.2.2.2.2.2.2.2.2.2.2.2.2.2.2.2.2.2.1 gN.2.2.2.2.2.2.2.2.2.2.2.2.2.2.2.2.2.2.2.2.2.1 gN.2.2.2.2.2.2.2.2.2.2.2.2.2.2.2.2.2.2.2.2.2.2.1 gN.2.2.2.2.2.2.2.2.2.2.2.2.2.2.2.2.2.2.2.2.2.2.2.1 gN.2.2.2.2.2.2.2.2.2.2.2.2.2.2.2.2.2.2.2.2.2.2.2.2.1 gN.2.2.2.2.2.2.2.2.2.2.2.2.2.2.2.2.2.2.2.2.2.2.2.2.2.1 gN.2.2.2.2.2.2.2.2.2.2.2.2.2.2.2.2.2.2.2.2.2.2.2.2.2.2.1 gN.2.2.2.2.2.2.2.2.2.2.2.2.2.2.2.2.2.2.2.2.2.2.2.2.2.2.2.1 gN.2.2.2.2.2.2.2.2.2.2.2.2.2.2.2.2.2.2.2.2.2.2.2.2.2.2.2.2.1 gN.2.2.2.2.2.2.2.2.2.2.2.2.2.2.2.2.2.2.2.2.2.2.2.2.2.2.2.2.2 _ e
  refine ⟨[0, 4, 5, 6, 7, 8, 9, 10, 11, 12, 13, 14, 15, 16, 17, 18, 19], _, w_ob cC t0 t1 t2 t3 nw sp yl ys yt yo (nI n) sg oA oC oF oS oD oP oR oU ++ w_gr cI cC nw aN gN, w_gr cI cC sp aS gS ++ w_hs cI cC yl ys yt yo al as_ at_ ao gl gs gt go, [.ref t1, .ref t2, .ref nw, .ref sp], by rw [List.append_assoc], rfl, by decide +kernel, rfl, hc⟩
set_option maxRecDepth 100000 in
theorem oq_lotOf {cI cC : ClassId} {D : va_G} {l : Launch} {t0 : Nat} {w0 w : va_W} {σ : Sp} (hT : OB cI cC t0 w0 σ w) (x1 x2 : Int32) (r : Int32) (h : Q_lotOf x1 x2 σ = some r) : OQ t0 w (fun wc => RdI l yX7_lotOf wsX7_lotOf rmX7_lotOf D cI cC wc [.ref t0, .int x1, .int x2] r) := by
  obtain ⟨t1, t2, t3, aN, aS, al, as_, at_, ao, nw, sp, yl, ys, yt, yo, n, sg, oA, oC, oF, oS, oD, oP, oR, oU, gN, gS, gl, gs, gt, go, rfl, hpm, hg, hk, hn⟩ := hT
  obtain ⟨hlo, hb0, hb1, hch, hba, hK, hmk, hst, hse, hfi, hgr, hbr, hpu, hnr⟩ := hg
  obtain rfl := Option.some.inj h
  have e := p_lotOf' (σ := σ) (nw := nw) hlo hk x1 x2
  have hc := c_X7_lotOf (l := l) (D := D) (cI := cI) (cC := cC) t0 t1 t2 aN x1 x2 nw sp gN.1 gN.2.1 gN.2.2.1 gN.2.2.2.1 gN.2.2.2.2.1 gN.2.2.2.2.2.1 gN.2.2.2.2.2.2.1 gN.2.2.2.2.2.2.2.1 gN.2.2.2.2.2.2.2.2.1 gN.2.2.2.2.2.2.2.2.2.1 gN.2.2.2.2.2.2.2.2.2.2.1 gN.2.2.2.2.2.2.2.2.2.2.2.1 gN.2.2.2.2.2.2.2.2.2.2.2.2.1 gN.2.2.2.2.2.2.2.2.2.2.2.2.2.1 gN.2.2.2.2.2.2.2.2.2.2.2.2.2.2.1 gN.2.2.2.2.2.2.2.2.2.2.2.2.2.2.2.1 gN.2.2.2.2.2.2.2.2.2.2.2.2.2.2.2.2.1 gN.2.2.2.2.2.2.2.2.2.2.2.2.2.2.2.2.2.1 gN.2.2.2.2.2.2.2.2.2.2.2.2.2.2.2.2.2.2.1 gN.2.2.2.2.2.2.2.2.2.2.2.2.2.2.2.2.2.2.2.1 gN.2.2.2.2.2.2.2.2.2.2.2.2.2.2.2.2.2.2.2.2.1 gN.2.2.2.2.2.2.2.2.2.2.2.2.2.2.2.2.2.2.2.2.2.1 gN.2.2.2.2.2.2.2.2.2.2.2.2.2.2.2.2.2.2.2.2.2.2.1 gN.2.2.2.2.2.2.2.2.2.2.2.2.2.2.2.2.2.2.2.2.2.2.2.1 gN.2.2.2.2.2.2.2.2.2.2.2.2.2.2.2.2.2.2.2.2.2.2.2.2.1 gN.2.2.2.2.2.2.2.2.2.2.2.2.2.2.2.2.2.2.2.2.2.2.2.2.2.1 gN.2.2.2.2.2.2.2.2.2.2.2.2.2.2.2.2.2.2.2.2.2.2.2.2.2.2.1 gN.2.2.2.2.2.2.2.2.2.2.2.2.2.2.2.2.2.2.2.2.2.2.2.2.2.2.2.1 gN.2.2.2.2.2.2.2.2.2.2.2.2.2.2.2.2.2.2.2.2.2.2.2.2.2.2.2.2.1 gN.2.2.2.2.2.2.2.2.2.2.2.2.2.2.2.2.2.2.2.2.2.2.2.2.2.2.2.2.2 _ e
  refine ⟨[0, 4, 5, 6, 7, 8, 9, 10, 11, 12, 13, 14, 15, 16, 17, 18, 19], _, w_ob cC t0 t1 t2 t3 nw sp yl ys yt yo (nI n) sg oA oC oF oS oD oP oR oU ++ w_gr cI cC nw aN gN, w_gr cI cC sp aS gS ++ w_hs cI cC yl ys yt yo al as_ at_ ao gl gs gt go, [.ref t1, .ref t2, .ref nw, .ref sp], by rw [List.append_assoc], rfl, by decide +kernel, rfl, hc⟩
set_option maxRecDepth 100000 in
theorem oq_portionOf {cI cC : ClassId} {D : va_G} {l : Launch} {t0 : Nat} {w0 w : va_W} {σ : Sp} (hT : OB cI cC t0 w0 σ w) (x1 x2 x3 : Int32) (r : Int32) (h : Q_portionOf x1 x2 x3 σ = some r) : OQ t0 w (fun wc => RdI l yX7_portionOf wsX7_portionOf rmX7_portionOf D cI cC wc [.ref t0, .int x1, .int x2, .int x3] r) := by
  obtain ⟨t1, t2, t3, aN, aS, al, as_, at_, ao, nw, sp, yl, ys, yt, yo, n, sg, oA, oC, oF, oS, oD, oP, oR, oU, gN, gS, gl, gs, gt, go, rfl, hpm, hg, hk, hn⟩ := hT
  obtain ⟨hlo, hb0, hb1, hch, hba, hK, hmk, hst, hse, hfi, hgr, hbr, hpu, hnr⟩ := hg
  obtain rfl := Option.some.inj h
  have e := p_portionOf' (σ := σ) (nw := nw) hch hba hst hk x1 x2 x3
  have hc := c_X7_portionOf (l := l) (D := D) (cI := cI) (cC := cC) t0 t1 t2 aN x1 x2 x3 nw sp gN.1 gN.2.1 gN.2.2.1 gN.2.2.2.1 gN.2.2.2.2.1 gN.2.2.2.2.2.1 gN.2.2.2.2.2.2.1 gN.2.2.2.2.2.2.2.1 gN.2.2.2.2.2.2.2.2.1 gN.2.2.2.2.2.2.2.2.2.1 gN.2.2.2.2.2.2.2.2.2.2.1 gN.2.2.2.2.2.2.2.2.2.2.2.1 gN.2.2.2.2.2.2.2.2.2.2.2.2.1 gN.2.2.2.2.2.2.2.2.2.2.2.2.2.1 gN.2.2.2.2.2.2.2.2.2.2.2.2.2.2.1 gN.2.2.2.2.2.2.2.2.2.2.2.2.2.2.2.1 gN.2.2.2.2.2.2.2.2.2.2.2.2.2.2.2.2.1 gN.2.2.2.2.2.2.2.2.2.2.2.2.2.2.2.2.2.1 gN.2.2.2.2.2.2.2.2.2.2.2.2.2.2.2.2.2.2.1 gN.2.2.2.2.2.2.2.2.2.2.2.2.2.2.2.2.2.2.2.1 gN.2.2.2.2.2.2.2.2.2.2.2.2.2.2.2.2.2.2.2.2.1 gN.2.2.2.2.2.2.2.2.2.2.2.2.2.2.2.2.2.2.2.2.2.1 gN.2.2.2.2.2.2.2.2.2.2.2.2.2.2.2.2.2.2.2.2.2.2.1 gN.2.2.2.2.2.2.2.2.2.2.2.2.2.2.2.2.2.2.2.2.2.2.2.1 gN.2.2.2.2.2.2.2.2.2.2.2.2.2.2.2.2.2.2.2.2.2.2.2.2.1 gN.2.2.2.2.2.2.2.2.2.2.2.2.2.2.2.2.2.2.2.2.2.2.2.2.2.1 gN.2.2.2.2.2.2.2.2.2.2.2.2.2.2.2.2.2.2.2.2.2.2.2.2.2.2.1 gN.2.2.2.2.2.2.2.2.2.2.2.2.2.2.2.2.2.2.2.2.2.2.2.2.2.2.2.1 gN.2.2.2.2.2.2.2.2.2.2.2.2.2.2.2.2.2.2.2.2.2.2.2.2.2.2.2.2.1 gN.2.2.2.2.2.2.2.2.2.2.2.2.2.2.2.2.2.2.2.2.2.2.2.2.2.2.2.2.2 _ e
  refine ⟨[0, 4, 5, 6, 7, 8, 9, 10, 11, 12, 13, 14, 15, 16, 17, 18, 19], _, w_ob cC t0 t1 t2 t3 nw sp yl ys yt yo (nI n) sg oA oC oF oS oD oP oR oU ++ w_gr cI cC nw aN gN, w_gr cI cC sp aS gS ++ w_hs cI cC yl ys yt yo al as_ at_ ao gl gs gt go, [.ref t1, .ref t2, .ref nw, .ref sp], by rw [List.append_assoc], rfl, by decide +kernel, rfl, hc⟩
set_option maxRecDepth 100000 in
theorem oq_shotOf {cI cC : ClassId} {D : va_G} {l : Launch} {t0 : Nat} {w0 w : va_W} {σ : Sp} (hT : OB cI cC t0 w0 σ w) (x1 x2 : Int32) (r : Int32) (h : Q_shotOf x1 x2 σ = some r) : OQ t0 w (fun wc => RdI l yX7_shotOf wsX7_shotOf rmX7_shotOf D cI cC wc [.ref t0, .int x1, .int x2] r) := by
  obtain ⟨t1, t2, t3, aN, aS, al, as_, at_, ao, nw, sp, yl, ys, yt, yo, n, sg, oA, oC, oF, oS, oD, oP, oR, oU, gN, gS, gl, gs, gt, go, rfl, hpm, hg, hk, hn⟩ := hT
  obtain ⟨hlo, hb0, hb1, hch, hba, hK, hmk, hst, hse, hfi, hgr, hbr, hpu, hnr⟩ := hg
  obtain rfl := Option.some.inj h
  have e := p_shotOf' (σ := σ) (nw := nw) hK hst hk x1 x2
  have hc := c_X7_shotOf (l := l) (D := D) (cI := cI) (cC := cC) t0 t1 t2 aN x1 x2 nw sp gN.1 gN.2.1 gN.2.2.1 gN.2.2.2.1 gN.2.2.2.2.1 gN.2.2.2.2.2.1 gN.2.2.2.2.2.2.1 gN.2.2.2.2.2.2.2.1 gN.2.2.2.2.2.2.2.2.1 gN.2.2.2.2.2.2.2.2.2.1 gN.2.2.2.2.2.2.2.2.2.2.1 gN.2.2.2.2.2.2.2.2.2.2.2.1 gN.2.2.2.2.2.2.2.2.2.2.2.2.1 gN.2.2.2.2.2.2.2.2.2.2.2.2.2.1 gN.2.2.2.2.2.2.2.2.2.2.2.2.2.2.1 gN.2.2.2.2.2.2.2.2.2.2.2.2.2.2.2.1 gN.2.2.2.2.2.2.2.2.2.2.2.2.2.2.2.2.1 gN.2.2.2.2.2.2.2.2.2.2.2.2.2.2.2.2.2.1 gN.2.2.2.2.2.2.2.2.2.2.2.2.2.2.2.2.2.2.1 gN.2.2.2.2.2.2.2.2.2.2.2.2.2.2.2.2.2.2.2.1 gN.2.2.2.2.2.2.2.2.2.2.2.2.2.2.2.2.2.2.2.2.1 gN.2.2.2.2.2.2.2.2.2.2.2.2.2.2.2.2.2.2.2.2.2.1 gN.2.2.2.2.2.2.2.2.2.2.2.2.2.2.2.2.2.2.2.2.2.2.1 gN.2.2.2.2.2.2.2.2.2.2.2.2.2.2.2.2.2.2.2.2.2.2.2.1 gN.2.2.2.2.2.2.2.2.2.2.2.2.2.2.2.2.2.2.2.2.2.2.2.2.1 gN.2.2.2.2.2.2.2.2.2.2.2.2.2.2.2.2.2.2.2.2.2.2.2.2.2.1 gN.2.2.2.2.2.2.2.2.2.2.2.2.2.2.2.2.2.2.2.2.2.2.2.2.2.2.1 gN.2.2.2.2.2.2.2.2.2.2.2.2.2.2.2.2.2.2.2.2.2.2.2.2.2.2.2.1 gN.2.2.2.2.2.2.2.2.2.2.2.2.2.2.2.2.2.2.2.2.2.2.2.2.2.2.2.2.1 gN.2.2.2.2.2.2.2.2.2.2.2.2.2.2.2.2.2.2.2.2.2.2.2.2.2.2.2.2.2 _ e
  refine ⟨[0, 4, 5, 6, 7, 8, 9, 10, 11, 12, 13, 14, 15, 16, 17, 18, 19], _, w_ob cC t0 t1 t2 t3 nw sp yl ys yt yo (nI n) sg oA oC oF oS oD oP oR oU ++ w_gr cI cC nw aN gN, w_gr cI cC sp aS gS ++ w_hs cI cC yl ys yt yo al as_ at_ ao gl gs gt go, [.ref t1, .ref t2, .ref nw, .ref sp], by rw [List.append_assoc], rfl, by decide +kernel, rfl, hc⟩
set_option maxRecDepth 100000 in
theorem oq_count {cI cC : ClassId} {D : va_G} {l : Launch} {t0 : Nat} {w0 w : va_W} {σ : Sp} (hT : OB cI cC t0 w0 σ w) (x1 : Int32) (r : Int32) (h : Q_count x1 σ = some r) : OQ t0 w (fun wc => RdI l yX7_count wsX7_count rmX7_count D cI cC wc [.ref t0, .int x1] r) := by
  obtain ⟨t1, t2, t3, aN, aS, al, as_, at_, ao, nw, sp, yl, ys, yt, yo, n, sg, oA, oC, oF, oS, oD, oP, oR, oU, gN, gS, gl, gs, gt, go, rfl, hpm, hg, hk, hn⟩ := hT
  obtain ⟨hlo, hb0, hb1, hch, hba, hK, hmk, hst, hse, hfi, hgr, hbr, hpu, hnr⟩ := hg
  obtain ⟨c10, e⟩ := gd_s h
  obtain rfl := Option.some.inj e
  have e := p_count' (σ := σ) (nw := nw) (yn := nI n) hlo.2.1 hch.2.1 hba.2.1 hmk hst hse hfi hgr hbr hpu hnr x1 c10
  have hc := c_X7_count (l := l) (D := D) (cI := cI) (cC := cC) t0 t1 t2 t3 aN x1 nw sp yl ys yt yo (nI n) sg 0 oA oC oF oS oD oP oR oU gN.1 gN.2.1 gN.2.2.1 gN.2.2.2.1 gN.2.2.2.2.1 gN.2.2.2.2.2.1 gN.2.2.2.2.2.2.1 gN.2.2.2.2.2.2.2.1 gN.2.2.2.2.2.2.2.2.1 gN.2.2.2.2.2.2.2.2.2.1 gN.2.2.2.2.2.2.2.2.2.2.1 gN.2.2.2.2.2.2.2.2.2.2.2.1 gN.2.2.2.2.2.2.2.2.2.2.2.2.1 gN.2.2.2.2.2.2.2.2.2.2.2.2.2.1 gN.2.2.2.2.2.2.2.2.2.2.2.2.2.2.1 gN.2.2.2.2.2.2.2.2.2.2.2.2.2.2.2.1 gN.2.2.2.2.2.2.2.2.2.2.2.2.2.2.2.2.1 gN.2.2.2.2.2.2.2.2.2.2.2.2.2.2.2.2.2.1 gN.2.2.2.2.2.2.2.2.2.2.2.2.2.2.2.2.2.2.1 gN.2.2.2.2.2.2.2.2.2.2.2.2.2.2.2.2.2.2.2.1 gN.2.2.2.2.2.2.2.2.2.2.2.2.2.2.2.2.2.2.2.2.1 gN.2.2.2.2.2.2.2.2.2.2.2.2.2.2.2.2.2.2.2.2.2.1 gN.2.2.2.2.2.2.2.2.2.2.2.2.2.2.2.2.2.2.2.2.2.2.1 gN.2.2.2.2.2.2.2.2.2.2.2.2.2.2.2.2.2.2.2.2.2.2.2.1 gN.2.2.2.2.2.2.2.2.2.2.2.2.2.2.2.2.2.2.2.2.2.2.2.2.1 gN.2.2.2.2.2.2.2.2.2.2.2.2.2.2.2.2.2.2.2.2.2.2.2.2.2.1 gN.2.2.2.2.2.2.2.2.2.2.2.2.2.2.2.2.2.2.2.2.2.2.2.2.2.2.1 gN.2.2.2.2.2.2.2.2.2.2.2.2.2.2.2.2.2.2.2.2.2.2.2.2.2.2.2.1 gN.2.2.2.2.2.2.2.2.2.2.2.2.2.2.2.2.2.2.2.2.2.2.2.2.2.2.2.2.1 gN.2.2.2.2.2.2.2.2.2.2.2.2.2.2.2.2.2.2.2.2.2.2.2.2.2.2.2.2.2 _ e
  refine ⟨[0, 1, 2, 3, 4, 5, 6, 7, 8, 9, 10, 11, 12, 13, 14, 15, 16, 17, 18, 19], _, w_ob cC t0 t1 t2 t3 nw sp yl ys yt yo (nI n) sg oA oC oF oS oD oP oR oU ++ w_gr cI cC nw aN gN, w_gr cI cC sp aS gS ++ w_hs cI cC yl ys yt yo al as_ at_ ao gl gs gt go, [.ref t1, .ref t2, .ref nw, .ref sp], by rw [List.append_assoc], rfl, by decide +kernel, rfl, hc⟩
