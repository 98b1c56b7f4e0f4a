/-! the two sides together, a call at a time -/
theorem p_keep {a : Int32} {nw sp yl ys yt yo n : Nat} (hn : n ≤ 4) : f_X7_keepIfDone a nw sp yl ys yt yo (nI n) = some (if 0 ≤ a then (a, sp, yo, nw, yl, ys, yt, nI (min 4 (n + 1))) else (a, nw, sp, yl, ys, yt, yo, nI n)) := by
  rw [f_X7_keepIfDone]
  by_cases c : 0 ≤ a
  · have e : (if nI n + (1 : Int32) < (4 : Int32) then nI n + (1 : Int32) else (4 : Int32)) = nI (min 4 (n + 1)) := by
      rw [nI_1]
      by_cases q : n + 1 < 4
      · rw [if_pos (show nI (n + 1) < (4 : Int32) from nI_lt (b := 4) q (by decide))]
        exact nI_inj (by omega)
      · rw [if_neg (show ¬ nI (n + 1) < (4 : Int32) from nI_nlt (b := 4) (by omega) (by omega)), show min 4 (n + 1) = 4 by omega]
        rfl
    rw [if_pos c, if_pos c, f_X2_add, e, lt_v, Option.bind_some]
  · rw [if_neg c, if_neg c]
/-- a change of the class: the state that is spare is the new one, or nothing is -/
def PCH (σ' : Sp) (a : Int32) (nw sp yl ys yt yo n : Nat) (R : Int32 × Nat × Nat × Nat × Nat × Nat × Nat × Int32 × Gr) : Prop := R.1 = a ∧ (a < 0 → R.2.1 = nw ∧ R.2.2.1 = sp ∧ R.2.2.2.1 = yl ∧ R.2.2.2.2.1 = ys ∧ R.2.2.2.2.2.1 = yt ∧ R.2.2.2.2.2.2.1 = yo ∧ R.2.2.2.2.2.2.2.1 = nI n) ∧ (0 ≤ a → R.2.1 = sp ∧ R.2.2.1 = yo ∧ R.2.2.2.1 = nw ∧ R.2.2.2.2.1 = yl ∧ R.2.2.2.2.2.1 = ys ∧ R.2.2.2.2.2.2.1 = yt ∧ R.2.2.2.2.2.2.2.1 = nI (min 4 (n + 1)) ∧ GR σ' R.2.2.2.2.2.2.2.2)
theorem p_chg {σ σ' : Sp} {gN gS : Gr} {B n nw sp yl ys yt yo : Nat} {a : Int32} (F : Gr → Option (Int32 × Gr)) (hg : GR σ gN) (hk : KK σ B) (hn : n ≤ 4) (hF : ∀ g, GR σ g → ∃ R, F g = some R ∧ R.1 = a ∧ (0 ≤ R.1 → GR σ' R.2)) : ∃ R, ((f_X7_spareLikeNow nw sp gN gS).bind fun q1 => (F q1).bind fun q2 => (f_X7_keepIfDone q2.1 nw sp yl ys yt yo (nI n)).bind fun q3 => some (q3.1, q3.2.1, q3.2.2.1, q3.2.2.2.1, q3.2.2.2.2.1, q3.2.2.2.2.2.1, q3.2.2.2.2.2.2.1, q3.2.2.2.2.2.2.2, q2.2)) = some R ∧ PCH σ' a nw sp yl ys yt yo n R := by
  obtain ⟨g1, e1, h1⟩ := G_copyFrom hg hk gS
  obtain ⟨R2, e2, h2, h3⟩ := hF g1 h1
  rw [f_X7_spareLikeNow, e1, Option.bind_some, Option.bind_some, e2, Option.bind_some, p_keep hn, Option.bind_some]
  by_cases c : 0 ≤ R2.1
  · rw [if_pos c]
    refine ⟨_, rfl, h2, fun q => absurd (h2 ▸ c) (Int32.not_le.mpr q), fun _ => ⟨rfl, rfl, rfl, rfl, rfl, rfl, rfl, h3 c⟩⟩
  · rw [if_neg c]
    exact ⟨_, rfl, h2, fun _ => ⟨rfl, rfl, rfl, rfl, rfl, rfl, rfl⟩, fun q => absurd (h2 ▸ q) c⟩
def HG (hs : List Sp) (gl gs gt go : Gr) : Prop := (∀ τ, hs[0]? = some τ → GR τ gl) ∧ (∀ τ, hs[1]? = some τ → GR τ gs) ∧ (∀ τ, hs[2]? = some τ → GR τ gt) ∧ (∀ τ, hs[3]? = some τ → GR τ go)
def SY (B : Nat) (gN gl gs gt go : Gr) (yn : Int32) (sg : Nat → Int32) (oL : Int32) (S P Tx : Nat → Int32) (pasts runs typed : Int32) : Prop :=
  ∃ (σ : Sp) (hs : List Sp) (tx : List Nat), GR σ gN ∧ KK σ B ∧ KH hs B ∧ yn = nI hs.length ∧ HG hs gl gs gt go ∧ TX tx sg oL ∧ TX tx Tx typed ∧ MR σ S ∧ PR hs P pasts ∧ runs = 0
theorem HG.push {σ : Sp} {hs : List Sp} {gN gl gs gt go : Gr} (h : HG hs gl gs gt go) (hg : GR σ gN) : HG ((σ :: hs).take 4) gN gl gs gt := by
  refine ⟨fun τ e => ?_, fun τ e => ?_, fun τ e => ?_, fun τ e => ?_⟩
  · rw [List.getElem?_take, if_pos (by decide)] at e
    cases e
    exact hg
  · rw [List.getElem?_take, if_pos (by decide)] at e
    exact h.1 τ e
  · rw [List.getElem?_take, if_pos (by decide)] at e
    exact h.2.1 τ e
  · rw [List.getElem?_take, if_pos (by decide)] at e
    exact h.2.2.1 τ e
theorem KH.push {σ : Sp} {hs : List Sp} {B C : Nat} (h : KH hs B) (hk : KK σ B) (hBC : B ≤ C) : KH ((σ :: hs).take 4) C := fun τ hτ => by
  rcases List.mem_cons.mp (List.mem_of_mem_take hτ) with rfl | q
  · exact KK_up hk hBC
  · exact KK_up (h τ q) hBC
/-- what the law's loop wants of a change: nothing new, or the states have moved on by one -/
def CHG (B nw sp yl ys yt yo : Nat) (gN gl gs gt go : Gr) (yn : Int32) (sg : Nat → Int32) (oL : Int32) (Tx : Nat → Int32) (runs typed : Int32) (nw' sp' yl' ys' yt' yo' : Nat) (yn' : Int32) (gS' : Gr) (S' P' : Nat → Int32) (pasts' : Int32) : Prop :=
  (nw' = nw ∧ sp' = sp ∧ yl' = yl ∧ ys' = ys ∧ yt' = yt ∧ yo' = yo ∧ SY (B + 90000) gN gl gs gt go yn' sg oL S' P' Tx pasts' runs typed) ∨ (nw' = sp ∧ sp' = yo ∧ yl' = nw ∧ ys' = yl ∧ yt' = ys ∧ yo' = yt ∧ SY (B + 90000) gS' gN gl gs gt yn' sg oL S' P' Tx pasts' runs typed)
theorem chg_of {σ σ' : Sp} {hs : List Sp} {tx : List Nat} {B nw sp yl ys yt yo : Nat} {gN gl gs gt go : Gr} {sg : Nat → Int32} {oL : Int32} {S P Tx : Nat → Int32} {pasts typed a : Int32} {R : Int32 × Nat × Nat × Nat × Nat × Nat × Nat × Int32 × Gr} {R' : Int32 × (Nat → Int32) × (Nat → Int32) × Int32} (hg : GR σ gN) (hk : KK σ B) (hK : KH hs B) (hG : HG hs gl gs gt go) (h1 : TX tx sg oL) (h2 : TX tx Tx typed) (hm : MR σ S) (hP : PR hs P pasts) (hK' : 0 ≤ a → KK σ' (B + 90000)) (p : PCH σ' a nw sp yl ys yt yo hs.length R) (r : RC σ σ' hs a S P pasts 0 R') : R.1 = R'.1 ∧ CHG B nw sp yl ys yt yo gN gl gs gt go (nI hs.length) sg oL Tx 0 typed R.2.1 R.2.2.1 R.2.2.2.1 R.2.2.2.2.1 R.2.2.2.2.2.1 R.2.2.2.2.2.2.1 R.2.2.2.2.2.2.2.1 R.2.2.2.2.2.2.2.2 R'.2.1 R'.2.2.1 R'.2.2.2 := by
  obtain ⟨p1, p2, p3⟩ := p
  obtain ⟨r1, r2, r3⟩ := r
  refine ⟨p1.trans r1.symm, ?_⟩
  by_cases c : 0 ≤ a
  · obtain ⟨q1, q2, q3, q4, q5, q6, q7, q8⟩ := p3 c
    obtain ⟨s1, s2, s3⟩ := r3 c
    have hl : ((σ :: hs).take 4).length = min 4 (hs.length + 1) := by rw [List.length_take]; rfl
    exact Or.inr ⟨q1, q2, q3, q4, q5, q6, σ', (σ :: hs).take 4, tx, q8, hK' c, hK.push hk (by omega), by rw [q7, hl], hG.push hg, h1, h2, s1, s3 rfl, rfl⟩
  · have c' := Int32.not_le.mp c
    obtain ⟨q1, q2, q3, q4, q5, q6, q7⟩ := p2 c'
    have e := r2 c'
    have eS : R'.2.1 = S := congrArg (fun q => q.1) e
    have eP : R'.2.2.1 = P := congrArg (fun q => q.2.1) e
    have ep : R'.2.2.2 = pasts := congrArg (fun q => q.2.2) e
    refine Or.inl ⟨q1, q2, q3, q4, q5, q6, σ, hs, tx, hg, KK_up hk (by omega), fun τ hτ => KK_up (hK τ hτ) (by omega), q7, hG, h1, h2, ?_, ?_, rfl⟩
    · rw [eS]; exact hm
    · rw [eP, ep]; exact hP
section ST
variable {B nw sp yl ys yt yo : Nat} {gN gS gl gs gt go : Gr} {yn : Int32} {sg : Nat → Int32} {oL : Int32} {S P Tx : Nat → Int32} {pasts runs typed : Int32}
theorem st_fill (h : SY B gN gl gs gt go yn sg oL S P Tx pasts runs typed) (hB : B < 2 ^ 28) (x1 x2 : Int32) : ∃ R R', f_X7_fill x1 x2 nw sp yl ys yt yo yn gN gS = some R ∧ f_X8_fill x1 x2 S P pasts runs = some R' ∧ R.1 = R'.1 ∧ CHG B nw sp yl ys yt yo gN gl gs gt go yn sg oL Tx runs typed R.2.1 R.2.2.1 R.2.2.2.1 R.2.2.2.2.1 R.2.2.2.2.2.1 R.2.2.2.2.2.2.1 R.2.2.2.2.2.2.2.1 R.2.2.2.2.2.2.2.2 R'.2.1 R'.2.2.1 R'.2.2.2 := by
  obtain ⟨σ, hs, tx, hg, hk, hK, rfl, hG, h1, h2, hm, hP, rfl⟩ := h
  obtain ⟨R, e, p⟩ := p_chg (gS := gS) (nw := nw) (sp := sp) (yl := yl) (ys := ys) (yt := yt) (yo := yo) (F_X1_fillIn x1 x2) hg hk hP.2.1 (fun g q => G_fillIn q hk x1 x2)
  obtain ⟨R', e', r⟩ := r_fill hP hm hk hK (Or.inl rfl) x1 x2
  exact ⟨R, R', e, e', chg_of hg hk hK hG h1 h2 hm hP (fun q => KK_up (K_fill hk q) (by omega)) p r⟩
theorem st_grind (h : SY B gN gl gs gt go yn sg oL S P Tx pasts runs typed) (hB : B < 2 ^ 28) (x1 x2 : Int32) : ∃ R R', f_X7_grind x1 x2 nw sp yl ys yt yo yn gN gS = some R ∧ f_X8_grind x1 x2 S P pasts runs = some R' ∧ R.1 = R'.1 ∧ CHG B nw sp yl ys yt yo gN gl gs gt go yn sg oL Tx runs typed R.2.1 R.2.2.1 R.2.2.2.1 R.2.2.2.2.1 R.2.2.2.2.2.1 R.2.2.2.2.2.2.1 R.2.2.2.2.2.2.2.1 R.2.2.2.2.2.2.2.2 R'.2.1 R'.2.2.1 R'.2.2.2 := by
  obtain ⟨σ, hs, tx, hg, hk, hK, rfl, hG, h1, h2, hm, hP, rfl⟩ := h
  obtain ⟨R, e, p⟩ := p_chg (gS := gS) (nw := nw) (sp := sp) (yl := yl) (ys := ys) (yt := yt) (yo := yo) (F_X1_grindBy x1 x2) hg hk hP.2.1 (fun g q => G_grindBy q hk hB x1 x2)
  obtain ⟨R', e', r⟩ := r_grind hP hm hk hK hB (Or.inl rfl) x1 x2
  exact ⟨R, R', e, e', chg_of hg hk hK hG h1 h2 hm hP (fun q => KK_up (K_grind hk q) (by omega)) p r⟩
theorem st_dial (h : SY B gN gl gs gt go yn sg oL S P Tx pasts runs typed) (hB : B < 2 ^ 28) (x1 x2 : Int32) : ∃ R R', f_X7_dial x1 x2 nw sp yl ys yt yo yn gN gS = some R ∧ f_X8_dial x1 x2 S P pasts runs = some R' ∧ R.1 = R'.1 ∧ CHG B nw sp yl ys yt yo gN gl gs gt go yn sg oL Tx runs typed R.2.1 R.2.2.1 R.2.2.2.1 R.2.2.2.2.1 R.2.2.2.2.2.1 R.2.2.2.2.2.2.1 R.2.2.2.2.2.2.2.1 R.2.2.2.2.2.2.2.2 R'.2.1 R'.2.2.1 R'.2.2.2 := by
  obtain ⟨σ, hs, tx, hg, hk, hK, rfl, hG, h1, h2, hm, hP, rfl⟩ := h
  obtain ⟨R, e, p⟩ := p_chg (gS := gS) (nw := nw) (sp := sp) (yl := yl) (ys := ys) (yt := yt) (yo := yo) (F_X1_turnDial x1 x2) hg hk hP.2.1 (fun g q => G_turnDial q hk x1 x2)
  obtain ⟨R', e', r⟩ := r_dial hP hm hk hK (Or.inl rfl) x1 x2
  exact ⟨R, R', e, e', chg_of hg hk hK hG h1 h2 hm hP (fun q => KK_up (K_dial hk q) (by omega)) p r⟩
theorem st_rest (h : SY B gN gl gs gt go yn sg oL S P Tx pasts runs typed) (hB : B < 2 ^ 28) (x1 : Int32) : ∃ R R', f_X7_rest x1 nw sp yl ys yt yo yn gN gS = some R ∧ f_X8_rest x1 S P pasts runs = some R' ∧ R.1 = R'.1 ∧ CHG B nw sp yl ys yt yo gN gl gs gt go yn sg oL Tx runs typed R.2.1 R.2.2.1 R.2.2.2.1 R.2.2.2.2.1 R.2.2.2.2.2.1 R.2.2.2.2.2.2.1 R.2.2.2.2.2.2.2.1 R.2.2.2.2.2.2.2.2 R'.2.1 R'.2.2.1 R'.2.2.2 := by
  obtain ⟨σ, hs, tx, hg, hk, hK, rfl, hG, h1, h2, hm, hP, rfl⟩ := h
  obtain ⟨R, e, p⟩ := p_chg (gS := gS) (nw := nw) (sp := sp) (yl := yl) (ys := ys) (yt := yt) (yo := yo) (F_X1_letPass x1) hg hk hP.2.1 (fun g q => G_letPass q hk hB x1)
  obtain ⟨R', e', r⟩ := r_rest hP hm hk hK hB (Or.inl rfl) x1
  exact ⟨R, R', e, e', chg_of hg hk hK hG h1 h2 hm hP (fun q => KK_up (K_rest hk q) (by omega)) p r⟩
theorem st_shot (h : SY B gN gl gs gt go yn sg oL S P Tx pasts runs typed) (hB : B < 2 ^ 28) : ∃ R R', f_X7_shot nw sp yl ys yt yo yn gN gS = some R ∧ f_X8_shot S P pasts runs = some R' ∧ R.1 = R'.1 ∧ CHG B nw sp yl ys yt yo gN gl gs gt go yn sg oL Tx runs typed R.2.1 R.2.2.1 R.2.2.2.1 R.2.2.2.2.1 R.2.2.2.2.2.1 R.2.2.2.2.2.2.1 R.2.2.2.2.2.2.2.1 R.2.2.2.2.2.2.2.2 R'.2.1 R'.2.2.1 R'.2.2.2 := by
  obtain ⟨σ, hs, tx, hg, hk, hK, rfl, hG, h1, h2, hm, hP, rfl⟩ := h
  obtain ⟨R, e, p⟩ := p_chg (gS := gS) (nw := nw) (sp := sp) (yl := yl) (ys := ys) (yt := yt) (yo := yo) F_X1_makeShot hg hk hP.2.1 (fun g q => by
    obtain ⟨R, z1, z2, z3⟩ := G_makeShot q hk hB
    exact ⟨R, z1, z2, fun z => (z3 z).2⟩)
  obtain ⟨R', e', r⟩ := r_shot hP hm hk hK hB (Or.inl rfl)
  exact ⟨R, R', e, e', chg_of hg hk hK hG h1 h2 hm hP (fun _ => KK_up (K_shot hk) (by omega)) p r⟩
theorem st_purge (h : SY B gN gl gs gt go yn sg oL S P Tx pasts runs typed) (hB : B < 2 ^ 28) : ∃ R R', f_X7_purge nw sp yl ys yt yo yn gN gS = some R ∧ f_X8_purge S P pasts runs = some R' ∧ R.1 = R'.1 ∧ CHG B nw sp yl ys yt yo gN gl gs gt go yn sg oL Tx runs typed R.2.1 R.2.2.1 R.2.2.2.1 R.2.2.2.2.1 R.2.2.2.2.2.1 R.2.2.2.2.2.2.1 R.2.2.2.2.2.2.2.1 R.2.2.2.2.2.2.2.2 R'.2.1 R'.2.2.1 R'.2.2.2 := by
  obtain ⟨σ, hs, tx, hg, hk, hK, rfl, hG, h1, h2, hm, hP, rfl⟩ := h
  obtain ⟨R, e, p⟩ := p_chg (gS := gS) (nw := nw) (sp := sp) (yl := yl) (ys := ys) (yt := yt) (yo := yo) F_X1_emptyChute hg hk hP.2.1 (fun g q => by
    obtain ⟨R, z1, z2, z3⟩ := G_emptyChute q
    exact ⟨R, z1, z2, fun _ => z3⟩)
  obtain ⟨R', e', r⟩ := r_purge hP hm hk hK (Or.inl rfl)
  exact ⟨R, R', e, e', chg_of hg hk hK hG h1 h2 hm hP (fun _ => KK_up (K_purge hk) (by omega)) p r⟩
theorem st_correct (h : SY B gN gl gs gt go yn sg oL S P Tx pasts runs typed) (hB : B < 2 ^ 28) (x1 : Int32) : ∃ R R', f_X7_correct x1 nw sp yl ys yt yo yn gN gS = some R ∧ f_X8_correct x1 S P pasts runs = some R' ∧ R.1 = R'.1 ∧ CHG B nw sp yl ys yt yo gN gl gs gt go yn sg oL Tx runs typed R.2.1 R.2.2.1 R.2.2.2.1 R.2.2.2.2.1 R.2.2.2.2.2.1 R.2.2.2.2.2.2.1 R.2.2.2.2.2.2.2.1 R.2.2.2.2.2.2.2.2 R'.2.1 R'.2.2.1 R'.2.2.2 := by
  obtain ⟨σ, hs, tx, hg, hk, hK, rfl, hG, h1, h2, hm, hP, rfl⟩ := h
  obtain ⟨R, e, p⟩ := p_chg (gS := gS) (nw := nw) (sp := sp) (yl := yl) (ys := ys) (yt := yt) (yo := yo) (F_X1_correctByLatest x1) hg hk hP.2.1 (fun g q => by
    obtain ⟨R, z1, z2, z3⟩ := G_correct q hk x1
    exact ⟨R, z1, z2, fun z => (z3 z).2⟩)
  obtain ⟨R', e', r⟩ := r_correct hP hm hk hK (Or.inl rfl) x1
  exact ⟨R, R', e, e', chg_of hg hk hK hG h1 h2 hm hP (fun _ => KK_up (K_corr _ hk) (by omega)) p r⟩
theorem st_set (h : SY B gN gl gs gt go yn sg oL S P Tx pasts runs typed) (hB : B < 2 ^ 28) (x1 x2 : Int32) : ∃ R R', f_X7_set x1 x2 nw sp yl ys yt yo yn gN gS = some R ∧ f_X8_set x1 x2 S P pasts runs = some R' ∧ R.1 = R'.1 ∧ CHG B nw sp yl ys yt yo gN gl gs gt go yn sg oL Tx runs typed R.2.1 R.2.2.1 R.2.2.2.1 R.2.2.2.2.1 R.2.2.2.2.2.1 R.2.2.2.2.2.2.1 R.2.2.2.2.2.2.2.1 R.2.2.2.2.2.2.2.2 R'.2.1 R'.2.2.1 R'.2.2.2 := by
  obtain ⟨σ, hs, tx, hg, hk, hK, rfl, hG, h1, h2, hm, hP, rfl⟩ := h
  obtain ⟨R, e, p⟩ := p_chg (gS := gS) (nw := nw) (sp := sp) (yl := yl) (ys := ys) (yt := yt) (yo := yo) (F_X1_changeSetting x1 x2) hg hk hP.2.1 (fun g q => G_changeSetting q x1 x2)
  obtain ⟨R', e', r⟩ := r_set hP hm hk hK (Or.inl rfl) x1 x2
  exact ⟨R, R', e, e', chg_of hg hk hK hG h1 h2 hm hP (fun q => KK_up (K_set hk q) (by omega)) p r⟩
theorem st_would (h : SY B gN gl gs gt go yn sg oL S P Tx pasts runs typed) (hB : B < 2 ^ 28) (Tr : Nat → Int32) (x1 x2 : Int32) : ∃ R R', f_X7_wouldTake x1 x2 nw sp gN gS = some R ∧ f_X8_wouldTake x1 x2 S Tr = some R' ∧ R.1 = R'.1 ∧ SY B gN gl gs gt go yn sg oL R'.2.1 P Tx pasts runs typed := by
  obtain ⟨σ, hs, tx, hg, hk, hK, rfl, hG, h1, h2, hm, hP, rfl⟩ := h
  obtain ⟨R, e, p⟩ := p_would (gS := gS) (nw := nw) (sp := sp) hg hk hB x1 x2
  obtain ⟨R', e', r1, r2⟩ := r_would (Tr := Tr) hm hk x1 x2
  exact ⟨R, R', e, e', p.trans r1.symm, σ, hs, tx, hg, hk, hK, rfl, hG, h1, h2, r2, hP, rfl⟩
theorem st_type (h : SY B gN gl gs gt go yn sg oL S P Tx pasts runs typed) (x1 : Int32) : ∃ R R', f_X7_type x1 sg oL = some R ∧ f_X8_type x1 Tx typed = some R' ∧ R.1 = R'.1 ∧ SY B gN gl gs gt go yn R.2.1 R.2.2 S P R'.2.1 pasts runs R'.2.2 := by
  obtain ⟨σ, hs, tx, hg, hk, hK, rfl, hG, h1, h2, hm, hP, rfl⟩ := h
  obtain ⟨R, R', e, e', q, tx', t1, t2⟩ := q_type h1 h2 x1
  exact ⟨R, R', e, e', q, σ, hs, tx', hg, hk, hK, rfl, hG, t1, t2, hm, hP, rfl⟩
theorem st_clear (h : SY B gN gl gs gt go yn sg oL S P Tx pasts runs typed) : ∃ R R', f_X7_clearText oL = some R ∧ f_X8_clearText typed = some R' ∧ R.1 = R'.1 ∧ SY B gN gl gs gt go yn sg R.2 S P Tx pasts runs R'.2 := by
  obtain ⟨σ, hs, tx, hg, hk, hK, rfl, hG, h1, h2, hm, hP, rfl⟩ := h
  exact ⟨_, _, rfl, rfl, h1.1.trans h2.1.symm, σ, hs, [], hg, hk, hK, rfl, hG, TX.nil _, TX.nil _, hm, hP, rfl⟩
theorem st_undo (h : SY B gN gl gs gt go yn sg oL S P Tx pasts runs typed) : ∃ R R', f_X7_undo nw yl ys yt yo yn = some R ∧ f_X8_undo S P pasts = some R' ∧ R.1 = R'.1 ∧ ((R.2.1 = nw ∧ R.2.2.1 = yl ∧ R.2.2.2.1 = ys ∧ R.2.2.2.2.1 = yt ∧ R.2.2.2.2.2.1 = yo ∧ SY B gN gl gs gt go R.2.2.2.2.2.2 sg oL R'.2.1 P Tx R'.2.2 runs typed) ∨ (R.2.1 = yl ∧ R.2.2.1 = ys ∧ R.2.2.2.1 = yt ∧ R.2.2.2.2.1 = yo ∧ R.2.2.2.2.2.1 = nw ∧ SY B gl gs gt go gN R.2.2.2.2.2.2 sg oL R'.2.1 P Tx R'.2.2 runs typed)) := by
  obtain ⟨σ, hs, tx, hg, hk, hK, rfl, hG, h1, h2, hm, hP, rfl⟩ := h
  have h4 := hP.2.1
  cases hs with
  | nil =>
    have ep : pasts = nI 0 := hP.1
    refine ⟨(cNP, nw, yl, ys, yt, yo, nI 0), (cNP, S, nI 0), ?_, by rw [ep]; exact r_undo0 S P, rfl, Or.inl ⟨rfl, rfl, rfl, rfl, rfl, σ, [], tx, hg, hk, hK, rfl, hG, h1, h2, hm, ⟨rfl, hP.2⟩, rfl⟩⟩
    rw [f_X7_undo, if_neg (by decide)]
    rfl
  | cons σ1 hs =>
    simp only [List.length_cons] at h4
    obtain ⟨S', a1, a2, a3⟩ := r_undo (S := S) hP (hK σ1 List.mem_cons_self)
    have e : (if (0 : Int32) < nI (hs.length + 1) - (1 : Int32) then nI (hs.length + 1) - (1 : Int32) else (0 : Int32)) = nI hs.length := by
      rw [nI_pred]
      by_cases z : hs.length = 0
      · rw [z]; rfl
      · rw [if_pos (show (0 : Int32) < nI hs.length from nI_lt (a := 0) (by omega) (by omega))]
    refine ⟨(nI hs.length, yl, ys, yt, yo, nw, nI hs.length), _, ?_, a1, rfl, Or.inr ⟨rfl, rfl, rfl, rfl, rfl, σ1, hs, tx, hG.1 σ1 rfl, hK σ1 List.mem_cons_self, fun τ hτ => hK τ (List.mem_cons_of_mem _ hτ), rfl, ⟨fun τ q => hG.2.1 τ q, fun τ q => hG.2.2.1 τ q, fun τ q => hG.2.2.2 τ q, fun τ q => ?_⟩, h1, h2, a2, a3, rfl⟩⟩
    · rw [List.length_cons, f_X7_undo, if_pos (show (1 : Int32) ≤ nI (hs.length + 1) from nI_le (a := 1) (by omega) (by omega)), f_X2_takeLatest, e, lt_v, Option.bind_some]
    · rw [List.getElem?_eq_none (by omega)] at q
      cases q
end ST
