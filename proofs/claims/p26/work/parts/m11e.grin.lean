section
variable {l : Launch} {D : va_G} {cI cC : ClassId}

abbrev rmX1_judge_0 : Room := { frames := 2, cells := 0, slots := 0, locals := 44 }
set_option maxHeartbeats 4000000 in
set_option maxRecDepth 100000 in
theorem c_X1_judge_0 (gh : Nat) (a : Nat → Nat) (x1 : Int32) (pA : Nat → Int32) (pM : Nat → Int32) (pn : Int32) (pt : Int32) (d0 : Int32) (w0 : Int32) (g0 : Int32) (k0 : Int32) (d1 : Int32) (w1 : Int32) (g1 : Int32) (k1 : Int32) (qA : Nat → Int32) (qM : Nat → Int32) (qn : Int32) (qt : Int32) (uA : Nat → Int32) (uM : Nat → Int32) (un : Int32) (ut : Int32) (sF : Nat → Int32) (sk : Int32) (sm : Int32) (st : Nat → Int32) (se : Int32) (fi : Int32) (gr : Int32) (br : Int32) (pu : Int32) (nr : Int32) (R : Int32 × Int32 × Int32) (hf : f_X1_judge_0 x1 d0 k0 st nr = some R) : WrV l yX1_judge wsX1_judge rmX1_judge_0 D cI cC (w_grinder cI cC gh a pA pM pn pt d0 w0 g0 k0 d1 w1 g1 k1 qA qM qn qt uA uM un ut sF sk sm st se fi gr br pu nr) (w_grinder cI cC gh a pA pM pn pt R.1 w0 g0 R.2.1 d1 w1 g1 k1 qA qM qn qt uA uM un ut sF sk sm st se fi gr br pu R.2.2) [.ref gh, .int x1, .ref (a 5)] := by
  refine en_V (cc := cX1_judge) (n := 3) (by decide) rfl (Nat.le_of_ble_eq_true rfl) ?_
  intro p e s m args below meth c Q AA ls hx hb hml hown hts hK hN hP hD hS hl ret
  have hown : s.vm.findClass RX1 = some m.cls := hown
  have hF : FX p m c cX1_judge 3 s args wsX1_judge RX1 D cI cC := ⟨⟨hx, hb, hml, hown, hts⟩, hK, hN⟩
  have hl : lv_has ls 3 [(0, .ref gh), (1, .int x1), (2, .ref (a 5))] := hl
  have k1_ := hts (.fieldLink RX1 47 "DriftGrinders$Grinder" "settings" "[I") (List.mem_of_getElem? (i := 1) rfl)
  have k2_ := hts (.methodLink RX1 166 Lib.Math.abs.name) (List.mem_of_getElem? (i := 2) rfl)
  have k3_ := hts (.static Lib.Math.abs.name) (List.mem_of_getElem? (i := 3) rfl)
  have k4_ := hts (.initialized "java/lang/Math") (List.mem_of_getElem? (i := 4) rfl)
  have k5_ := hts (.code Lib.Math.abs.name Lib.Math.abs.code 1 (some .int)) (List.mem_of_getElem? (i := 5) rfl)
  have k6_ := hts (.fieldLink RX1 86 "DriftGrinders$Grinder" "shotsNearTarget" "I") (List.mem_of_getElem? (i := 6) rfl)
  have n1_ : ∀ w ∈ wsX10, w ∈ wsX1_judge := fun _ h => List.mem_cons_of_mem _ (List.mem_append_left _ (List.mem_append_right _ h))
  rw [f_X1_judge_0] at hf
  obtain ⟨H, hH⟩ : ∃ z : Heap, z = s.heap := ⟨_, rfl⟩
  obtain ⟨locs, hL⟩ : ∃ z : List Loc, z = [] := ⟨_, rfl⟩
  replace hP := hH ▸ hP
  replace hS : va_S AA s.heap H locs := by rw [hH, hL]; exact hS
  suffices hgoal : W p l e rmX1_judge_0 s m args below meth c H locs 0 0 Q (F0 m 0 ls []) by rw [hH, hL] at hgoal; exact hgoal
  clear hH hL
  refine lv_iload_n hx hb dX1_judge_0 rfl (lv_at hl 1 rfl) ?_
  refine lv_aload_n hx hb dX1_judge_1 rfl (lv_at hl 0 rfl) ?_
  refine va_get hx hb hts n1_ hown hK hP 0 rfl rfl 6 (Nat.le_of_ble_eq_true rfl) k1_ (fun _ h => h) rfl dX1_judge_2 ?_
  refine lv_iconst (v := (0 : Int32)) hx hb dX1_judge_5 (by decide) ?_
  refine va_iald hx hb hK hP 15 0 rfl rfl (show ¬ ((0 : Int32) < 0 ∨ 6 ≤ (0 : Int32).toNatClampNeg) by decide) dX1_judge_6 ?_
  refine lv_isub hx hb dX1_judge_7 ?_
  refine va_mabs hx hb (hml.trans hl.1.symm) hown k2_ k3_ k4_ k5_ (Nat.le_of_ble_eq_true rfl) (Nat.le_of_ble_eq_true rfl) (Nat.zero_le _) (Nat.zero_le _) dX1_judge_8 ?_
  refine lv_topi (fun v1 ev1 => ?_)
  replace hf := lt_e ev1 hf
  refine lv_aload_n hx hb dX1_judge_11 rfl (lv_at hl 0 rfl) ?_
  refine va_get hx hb hts n1_ hown hK hP 0 rfl rfl 6 (Nat.le_of_ble_eq_true rfl) k1_ (fun _ h => h) rfl dX1_judge_12 ?_
  refine lv_iconst (v := (1 : Int32)) hx hb dX1_judge_15 (by decide) ?_
  refine va_iald hx hb hK hP 15 0 rfl rfl (show ¬ ((1 : Int32) < 0 ∨ 6 ≤ (1 : Int32).toNatClampNeg) by decide) dX1_judge_16 ?_
  refine lv_icmp_gt (tgt := 33) hx hb dX1_judge_17 (by decide) (fun hc2 => ?_) (fun hc2 => ?_)
  · replace hf := it hc2 hf
    refine lv_aload_n hx hb dX1_judge_33 rfl (lv_at hl 0 rfl) ?_
    refine va_get hx hb hts n1_ hown hK hP 0 rfl rfl 6 (Nat.le_of_ble_eq_true rfl) k1_ (fun _ h => h) rfl dX1_judge_34 ?_
    refine lv_iconst (v := (5 : Int32)) hx hb dX1_judge_37 (by decide) ?_
    refine va_iald hx hb hK hP 15 0 rfl rfl (show ¬ ((5 : Int32) < 0 ∨ 6 ≤ (5 : Int32).toNatClampNeg) by decide) dX1_judge_38 ?_
    refine lv_iconst (v := (1 : Int32)) hx hb dX1_judge_39 (by decide) ?_
    refine lv_icmp_ne (tgt := 54) hx hb dX1_judge_40 (by decide) (fun hc3 => ?_) (fun hc3 => ?_)
    · replace hf := ie hc3 hf
      obtain rfl := Option.some.inj hf
      exact ret 54 ls H locs dX1_judge_54 hP hS
    · replace hf := it hc3 hf
      refine lv_aload_n hx hb dX1_judge_43 rfl (lv_at hl 2 rfl) ?_
      refine lv_iload_n hx hb dX1_judge_44 rfl (lv_at hl 1 rfl) ?_
      refine lv_aload_n hx hb dX1_judge_45 rfl (lv_at hl 0 rfl) ?_
      refine va_get hx hb hts n1_ hown hK hP 0 rfl rfl 6 (Nat.le_of_ble_eq_true rfl) k1_ (fun _ h => h) rfl dX1_judge_46 ?_
      refine lv_iconst (v := (0 : Int32)) hx hb dX1_judge_49 (by decide) ?_
      refine va_iald hx hb hK hP 15 0 rfl rfl (show ¬ ((0 : Int32) < 0 ∨ 6 ≤ (0 : Int32).toNatClampNeg) by decide) dX1_judge_50 ?_
      obtain ⟨q4, hq4, hf⟩ := ob hf
      refine cl_VV (W1 := (w_grinder cI cC gh a pA pM pn pt q4.1 w0 g0 q4.2 d1 w1 g1 k1 qA qM qn qt uA uM un ut sF sk sm st se fi gr br pu nr)) (As := [.int x1, .int (st (0 : Int32).toNatClampNeg)]) (rest := []) hF hP hD hS (c_X0_correctBy (a 5) x1 (st (0 : Int32).toNatClampNeg) d0 w0 g0 k0 q4 hq4) (cwV 2 hts gX1_judge_X0_correctBy rfl rfl rfl (by decide +kernel) ⟨(Nat.le_of_ble_eq_true rfl), (Nat.le_of_ble_eq_true rfl)⟩) [5] rfl (by decide +kernel) (va_recv hK hP (ci := 0) (q0 := 5) rfl rfl) rfl rfl hl.1 (Nat.le_of_ble_eq_true rfl) dX1_judge_51 ⟨Nat.zero_le _, Nat.zero_le _⟩ (hA2 [(a 5)] rfl rfl) [0, 1, 2, 3, 4, 6, 7, 8, 9, 10, 11, 12, 13, 14, 15] rfl [(gh, .inr (1, [.ref (a 1), .ref (a 5), .ref (a 6), .ref (a 7), .ref (a 10), .ref (a 13), .ref (a 15), .int se, .int fi, .int gr, .int br, .int pu, .int nr])), ((a 1), .inr (3, [.ref (a 2)])), ((a 2), .inr (5, [.ref (a 3), .ref (a 4), .int pn, .int pt])), ((a 3), .inl (cI, 6, .inl pA)), ((a 4), .inl (cI, 6, .inl pM)), ((a 6), .inr (0, [.int d1, .int w1, .int g1, .int k1])), ((a 7), .inr (5, [.ref (a 8), .ref (a 9), .int qn, .int qt])), ((a 8), .inl (cI, 106, .inl qA)), ((a 9), .inl (cI, 106, .inl qM)), ((a 10), .inr (5, [.ref (a 11), .ref (a 12), .int un, .int ut])), ((a 11), .inl (cI, 400, .inl uA)), ((a 12), .inl (cI, 400, .inl uM)), ((a 13), .inr (6, [.ref (a 14), .int sk, .int sm])), ((a 14), .inl (cI, 96, .inl sF)), ((a 15), .inl (cI, 6, .inl st))] rfl rfl (nW := 16) rfl (by decide +kernel) (fun H locs hP hD hS => ?_)
      obtain rfl := Option.some.inj hf
      exact ret 54 ls H locs dX1_judge_54 hP hS
  · replace hf := ie hc2 hf
    refine lv_aload_n hx hb dX1_judge_20 rfl (lv_at hl 0 rfl) ?_
    refine lv_dup hx hb dX1_judge_21 rfl ?_
    refine va_get hx hb hts n1_ hown hK hP 0 rfl rfl 12 (Nat.le_of_ble_eq_true rfl) k6_ (fun _ h => h) rfl dX1_judge_22 ?_
    refine lv_iconst (v := (1 : Int32)) hx hb dX1_judge_25 (by decide) ?_
    refine lv_iadd hx hb dX1_judge_26 ?_
    refine lv_topi (fun v5 ev5 => ?_)
    replace hf := lt_e ev5 hf
    refine va_put hx hb hts n1_ tyX1 tyX1_ok nmX1 hown hK hP hD hS 0 rfl rfl 12 (Nat.le_of_ble_eq_true rfl) k6_ (fun _ h => h) rfl (v := .int v5) (tyX1_ok 12 (Nat.le_of_ble_eq_true rfl)) rfl rfl (Nat.le_of_ble_eq_true rfl) dX1_judge_27 (fun H locs hP hD hS => ?_)
    have hP : va_P D vwCl (w_grinder cI cC gh a pA pM pn pt d0 w0 g0 k0 d1 w1 g1 k1 qA qM qn qt uA uM un ut sF sk sm st se fi gr br pu v5) H := hP
    have hD : va_D AA (w_grinder cI cC gh a pA pM pn pt d0 w0 g0 k0 d1 w1 g1 k1 qA qM qn qt uA uM un ut sF sk sm st se fi gr br pu v5) := hD
    refine lv_goto (tgt := 54) hx hb dX1_judge_30 (by decide) ?_
    obtain rfl := Option.some.inj hf
    exact ret 54 ls H locs dX1_judge_54 hP hS
abbrev rmX1_judge_1 : Room := { frames := 2, cells := 0, slots := 0, locals := 44 }
set_option maxHeartbeats 4000000 in
set_option maxRecDepth 100000 in
theorem c_X1_judge_1 (gh : Nat) (a : Nat → Nat) (x1 : Int32) (pA : Nat → Int32) (pM : Nat → Int32) (pn : Int32) (pt : Int32) (d0 : Int32) (w0 : Int32) (g0 : Int32) (k0 : Int32) (d1 : Int32) (w1 : Int32) (g1 : Int32) (k1 : Int32) (qA : Nat → Int32) (qM : Nat → Int32) (qn : Int32) (qt : Int32) (uA : Nat → Int32) (uM : Nat → Int32) (un : Int32) (ut : Int32) (sF : Nat → Int32) (sk : Int32) (sm : Int32) (st : Nat → Int32) (se : Int32) (fi : Int32) (gr : Int32) (br : Int32) (pu : Int32) (nr : Int32) (R : Int32 × Int32 × Int32) (hf : f_X1_judge_1 x1 d1 k1 st nr = some R) : WrV l yX1_judge wsX1_judge rmX1_judge_1 D cI cC (w_grinder cI cC gh a pA pM pn pt d0 w0 g0 k0 d1 w1 g1 k1 qA qM qn qt uA uM un ut sF sk sm st se fi gr br pu nr) (w_grinder cI cC gh a pA pM pn pt d0 w0 g0 k0 R.1 w1 g1 R.2.1 qA qM qn qt uA uM un ut sF sk sm st se fi gr br pu R.2.2) [.ref gh, .int x1, .ref (a 6)] := by
  refine en_V (cc := cX1_judge) (n := 3) (by decide) rfl (Nat.le_of_ble_eq_true rfl) ?_
  intro p e s m args below meth c Q AA ls hx hb hml hown hts hK hN hP hD hS hl ret
  have hown : s.vm.findClass RX1 = some m.cls := hown
  have hF : FX p m c cX1_judge 3 s args wsX1_judge RX1 D cI cC := ⟨⟨hx, hb, hml, hown, hts⟩, hK, hN⟩
  have hl : lv_has ls 3 [(0, .ref gh), (1, .int x1), (2, .ref (a 6))] := hl
  have k1_ := hts (.fieldLink RX1 47 "DriftGrinders$Grinder" "settings" "[I") (List.mem_of_getElem? (i := 1) rfl)
  have k2_ := hts (.methodLink RX1 166 Lib.Math.abs.name) (List.mem_of_getElem? (i := 2) rfl)
  have k3_ := hts (.static Lib.Math.abs.name) (List.mem_of_getElem? (i := 3) rfl)
  have k4_ := hts (.initialized "java/lang/Math") (List.mem_of_getElem? (i := 4) rfl)
  have k5_ := hts (.code Lib.Math.abs.name Lib.Math.abs.code 1 (some .int)) (List.mem_of_getElem? (i := 5) rfl)
  have k6_ := hts (.fieldLink RX1 86 "DriftGrinders$Grinder" "shotsNearTarget" "I") (List.mem_of_getElem? (i := 6) rfl)
  have n1_ : ∀ w ∈ wsX10, w ∈ wsX1_judge := fun _ h => List.mem_cons_of_mem _ (List.mem_append_left _ (List.mem_append_right _ h))
  rw [f_X1_judge_1] at hf
  obtain ⟨H, hH⟩ : ∃ z : Heap, z = s.heap := ⟨_, rfl⟩
  obtain ⟨locs, hL⟩ : ∃ z : List Loc, z = [] := ⟨_, rfl⟩
  replace hP := hH ▸ hP
  replace hS : va_S AA s.heap H locs := by rw [hH, hL]; exact hS
  suffices hgoal : W p l e rmX1_judge_1 s m args below meth c H locs 0 0 Q (F0 m 0 ls []) by rw [hH, hL] at hgoal; exact hgoal
  clear hH hL
  refine lv_iload_n hx hb dX1_judge_0 rfl (lv_at hl 1 rfl) ?_
  refine lv_aload_n hx hb dX1_judge_1 rfl (lv_at hl 0 rfl) ?_
  refine va_get hx hb hts n1_ hown hK hP 0 rfl rfl 6 (Nat.le_of_ble_eq_true rfl) k1_ (fun _ h => h) rfl dX1_judge_2 ?_
  refine lv_iconst (v := (0 : Int32)) hx hb dX1_judge_5 (by decide) ?_
  refine va_iald hx hb hK hP 15 0 rfl rfl (show ¬ ((0 : Int32) < 0 ∨ 6 ≤ (0 : Int32).toNatClampNeg) by decide) dX1_judge_6 ?_
  refine lv_isub hx hb dX1_judge_7 ?_
  refine va_mabs hx hb (hml.trans hl.1.symm) hown k2_ k3_ k4_ k5_ (Nat.le_of_ble_eq_true rfl) (Nat.le_of_ble_eq_true rfl) (Nat.zero_le _) (Nat.zero_le _) dX1_judge_8 ?_
  refine lv_topi (fun v1 ev1 => ?_)
  replace hf := lt_e ev1 hf
  refine lv_aload_n hx hb dX1_judge_11 rfl (lv_at hl 0 rfl) ?_
  refine va_get hx hb hts n1_ hown hK hP 0 rfl rfl 6 (Nat.le_of_ble_eq_true rfl) k1_ (fun _ h => h) rfl dX1_judge_12 ?_
  refine lv_iconst (v := (1 : Int32)) hx hb dX1_judge_15 (by decide) ?_
  refine va_iald hx hb hK hP 15 0 rfl rfl (show ¬ ((1 : Int32) < 0 ∨ 6 ≤ (1 : Int32).toNatClampNeg) by decide) dX1_judge_16 ?_
  refine lv_icmp_gt (tgt := 33) hx hb dX1_judge_17 (by decide) (fun hc2 => ?_) (fun hc2 => ?_)
  · replace hf := it hc2 hf
    refine lv_aload_n hx hb dX1_judge_33 rfl (lv_at hl 0 rfl) ?_
    refine va_get hx hb hts n1_ hown hK hP 0 rfl rfl 6 (Nat.le_of_ble_eq_true rfl) k1_ (fun _ h => h) rfl dX1_judge_34 ?_
    refine lv_iconst (v := (5 : Int32)) hx hb dX1_judge_37 (by decide) ?_
    refine va_iald hx hb hK hP 15 0 rfl rfl (show ¬ ((5 : Int32) < 0 ∨ 6 ≤ (5 : Int32).toNatClampNeg) by decide) dX1_judge_38 ?_
    refine lv_iconst (v := (1 : Int32)) hx hb dX1_judge_39 (by decide) ?_
    refine lv_icmp_ne (tgt := 54) hx hb dX1_judge_40 (by decide) (fun hc3 => ?_) (fun hc3 => ?_)
    · replace hf := ie hc3 hf
      obtain rfl := Option.some.inj hf
      exact ret 54 ls H locs dX1_judge_54 hP hS
    · replace hf := it hc3 hf
      refine lv_aload_n hx hb dX1_judge_43 rfl (lv_at hl 2 rfl) ?_
      refine lv_iload_n hx hb dX1_judge_44 rfl (lv_at hl 1 rfl) ?_
      refine lv_aload_n hx hb dX1_judge_45 rfl (lv_at hl 0 rfl) ?_
      refine va_get hx hb hts n1_ hown hK hP 0 rfl rfl 6 (Nat.le_of_ble_eq_true rfl) k1_ (fun _ h => h) rfl dX1_judge_46 ?_
      refine lv_iconst (v := (0 : Int32)) hx hb dX1_judge_49 (by decide) ?_
      refine va_iald hx hb hK hP 15 0 rfl rfl (show ¬ ((0 : Int32) < 0 ∨ 6 ≤ (0 : Int32).toNatClampNeg) by decide) dX1_judge_50 ?_
      obtain ⟨q4, hq4, hf⟩ := ob hf
      refine cl_VV (W1 := (w_grinder cI cC gh a pA pM pn pt d0 w0 g0 k0 q4.1 w1 g1 q4.2 qA qM qn qt uA uM un ut sF sk sm st se fi gr br pu nr)) (As := [.int x1, .int (st (0 : Int32).toNatClampNeg)]) (rest := []) hF hP hD hS (c_X0_correctBy (a 6) x1 (st (0 : Int32).toNatClampNeg) d1 w1 g1 k1 q4 hq4) (cwV 2 hts gX1_judge_X0_correctBy rfl rfl rfl (by decide +kernel) ⟨(Nat.le_of_ble_eq_true rfl), (Nat.le_of_ble_eq_true rfl)⟩) [6] rfl (by decide +kernel) (va_recv hK hP (ci := 0) (q0 := 6) rfl rfl) rfl rfl hl.1 (Nat.le_of_ble_eq_true rfl) dX1_judge_51 ⟨Nat.zero_le _, Nat.zero_le _⟩ (hA2 [(a 6)] rfl rfl) [0, 1, 2, 3, 4, 5, 7, 8, 9, 10, 11, 12, 13, 14, 15] rfl [(gh, .inr (1, [.ref (a 1), .ref (a 5), .ref (a 6), .ref (a 7), .ref (a 10), .ref (a 13), .ref (a 15), .int se, .int fi, .int gr, .int br, .int pu, .int nr])), ((a 1), .inr (3, [.ref (a 2)])), ((a 2), .inr (5, [.ref (a 3), .ref (a 4), .int pn, .int pt])), ((a 3), .inl (cI, 6, .inl pA)), ((a 4), .inl (cI, 6, .inl pM)), ((a 5), .inr (0, [.int d0, .int w0, .int g0, .int k0])), ((a 7), .inr (5, [.ref (a 8), .ref (a 9), .int qn, .int qt])), ((a 8), .inl (cI, 106, .inl qA)), ((a 9), .inl (cI, 106, .inl qM)), ((a 10), .inr (5, [.ref (a 11), .ref (a 12), .int un, .int ut])), ((a 11), .inl (cI, 400, .inl uA)), ((a 12), .inl (cI, 400, .inl uM)), ((a 13), .inr (6, [.ref (a 14), .int sk, .int sm])), ((a 14), .inl (cI, 96, .inl sF)), ((a 15), .inl (cI, 6, .inl st))] rfl rfl (nW := 16) rfl (by decide +kernel) (fun H locs hP hD hS => ?_)
      obtain rfl := Option.some.inj hf
      exact ret 54 ls H locs dX1_judge_54 hP hS
  · replace hf := ie hc2 hf
    refine lv_aload_n hx hb dX1_judge_20 rfl (lv_at hl 0 rfl) ?_
    refine lv_dup hx hb dX1_judge_21 rfl ?_
    refine va_get hx hb hts n1_ hown hK hP 0 rfl rfl 12 (Nat.le_of_ble_eq_true rfl) k6_ (fun _ h => h) rfl dX1_judge_22 ?_
    refine lv_iconst (v := (1 : Int32)) hx hb dX1_judge_25 (by decide) ?_
    refine lv_iadd hx hb dX1_judge_26 ?_
    refine lv_topi (fun v5 ev5 => ?_)
    replace hf := lt_e ev5 hf
    refine va_put hx hb hts n1_ tyX1 tyX1_ok nmX1 hown hK hP hD hS 0 rfl rfl 12 (Nat.le_of_ble_eq_true rfl) k6_ (fun _ h => h) rfl (v := .int v5) (tyX1_ok 12 (Nat.le_of_ble_eq_true rfl)) rfl rfl (Nat.le_of_ble_eq_true rfl) dX1_judge_27 (fun H locs hP hD hS => ?_)
    have hP : va_P D vwCl (w_grinder cI cC gh a pA pM pn pt d0 w0 g0 k0 d1 w1 g1 k1 qA qM qn qt uA uM un ut sF sk sm st se fi gr br pu v5) H := hP
    have hD : va_D AA (w_grinder cI cC gh a pA pM pn pt d0 w0 g0 k0 d1 w1 g1 k1 qA qM qn qt uA uM un ut sF sk sm st se fi gr br pu v5) := hD
    refine lv_goto (tgt := 54) hx hb dX1_judge_30 (by decide) ?_
    obtain rfl := Option.some.inj hf
    exact ret 54 ls H locs dX1_judge_54 hP hS
end
