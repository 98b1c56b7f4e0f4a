section
variable {l : Launch} {D : va_G} {cI cC : ClassId}

def w_ordb (cI cC : ClassId) (h0 : Nat) (h1 : Nat) (gh : Nat) (a : Nat → Nat) (sg : Nat → Int32) (oL : Int32) (oA : Int32) (oC : Int32) (oF : Int32) (oS : Int32) (oD : Int32) (oP : Int32) (oR : Int32) (oU : Int32) (g : Gr) : va_W := [(h0, .inr (4, [.ref h1, .int oL, .int oA, .int oC, .int oF, .int oS, .int oD, .int oP, .int oR, .int oU])), (h1, .inl (cC, 60, .inl sg))] ++ w_gr cI cC gh a g
abbrev rmX4_doOrderOn : Room := { frames := 5, cells := 0, slots := 0, locals := 156 }
set_option maxHeartbeats 4000000 in
set_option maxRecDepth 100000 in
theorem c_X4_doOrderOn (h0 : Nat) (h1 : Nat) (gh : Nat) (a : Nat → Nat) (sg : Nat → Int32) (oL : Int32) (oA : Int32) (oC : Int32) (oF : Int32) (oS : Int32) (oD : Int32) (oP : Int32) (oR : Int32) (oU : Int32) (g : Gr) (R : Int32 × Gr) (hf : f_X4_doOrderOn oC oF oS g = some R) : WrI l yX4_doOrderOn wsX4_doOrderOn rmX4_doOrderOn D cI cC (w_ordb cI cC h0 h1 gh a sg oL oA oC oF oS oD oP oR oU g) (w_ordb cI cC h0 h1 gh a sg oL oA oC oF oS oD oP oR oU R.2) [.ref h0, .ref gh] R.1 := by
  refine en_W (cc := cX4_doOrderOn) (n := 2) (by decide) rfl (Nat.le_of_ble_eq_true rfl) ?_
  intro p e s m args below meth c Q AA ls hx hb hml hown hts hK hN hP hD hS hl ret
  have hown : s.vm.findClass RX4 = some m.cls := hown
  have hF : FX p m c cX4_doOrderOn 2 s args wsX4_doOrderOn RX4 D cI cC := ⟨⟨hx, hb, hml, hown, hts⟩, hK, hN⟩
  have hl : lv_has ls 2 [(0, .ref h0), (1, .ref gh)] := hl
  have k1_ := hts (.fieldLink RX4 55 "DriftGrinders$Orders" "letter" "C") (List.mem_of_getElem? (i := 1) rfl)
  have k2_ := hts (.fieldLink RX4 73 "DriftGrinders$Orders" "firstNumber" "I") (List.mem_of_getElem? (i := 2) rfl)
  have k3_ := hts (.fieldLink RX4 76 "DriftGrinders$Orders" "secondNumber" "I") (List.mem_of_getElem? (i := 3) rfl)
  have n4_ : ∀ w ∈ wsX40, w ∈ wsX4_doOrderOn := fun _ h => List.mem_cons_of_mem _ (List.mem_append_left _ (List.mem_append_left _ (List.mem_append_left _ (List.mem_append_left _ (List.mem_append_left _ (List.mem_append_right _ h))))))
  rw [f_X4_doOrderOn] at hf
  obtain ⟨H, hH⟩ : ∃ z : Heap, z = s.heap := ⟨_, rfl⟩
  obtain ⟨locs, hL⟩ : ∃ z : List Loc, z = [] := ⟨_, rfl⟩
  replace hP := hH ▸ hP
  replace hS : va_S AA s.heap H locs := by rw [hH, hL]; exact hS
  suffices hgoal : W p l e rmX4_doOrderOn s m args below meth c H locs 0 0 Q (F0 m 0 ls []) by rw [hH, hL] at hgoal; exact hgoal
  clear hH hL
  refine lv_aload_n hx hb dX4_doOrderOn_0 rfl (lv_at hl 0 rfl) ?_
  refine va_get hx hb hts n4_ hown hK hP 0 rfl rfl 3 (Nat.le_of_ble_eq_true rfl) k1_ (fun _ h => h) rfl dX4_doOrderOn_1 ?_
  by_cases hc1 : oC = 98
  · replace hf := it hc1 hf
    refine lv_lookup (off := 78) (tgt := 82) hx hb dX4_doOrderOn_4 (by decide) (by rw [hc1]; decide) (by decide) ?_
    refine lv_aload_n hx hb dX4_doOrderOn_82 rfl (lv_at hl 1 rfl) ?_
    refine lv_aload_n hx hb dX4_doOrderOn_83 rfl (lv_at hl 0 rfl) ?_
    refine va_get hx hb hts n4_ hown hK hP 0 rfl rfl 4 (Nat.le_of_ble_eq_true rfl) k2_ (fun _ h => h) rfl dX4_doOrderOn_84 ?_
    refine lv_aload_n hx hb dX4_doOrderOn_87 rfl (lv_at hl 0 rfl) ?_
    refine va_get hx hb hts n4_ hown hK hP 0 rfl rfl 5 (Nat.le_of_ble_eq_true rfl) k3_ (fun _ h => h) rfl dX4_doOrderOn_88 ?_
    obtain ⟨q2, hq2, hf⟩ := ob hf
    refine cl_WV (W1 := (w_ordb cI cC h0 h1 gh a sg oL oA oC oF oS oD oP oR oU q2.2)) (As := [.int oF, .int oS]) (rest := []) hF hP hD hS (C_X1_turnDial gh a oF oS g q2 hq2) (cwV 2 hts gX4_doOrderOn_X1_turnDial rfl rfl rfl (by decide +kernel) ⟨(Nat.le_of_ble_eq_true rfl), (Nat.le_of_ble_eq_true rfl)⟩) [2, 3, 4, 5, 6, 7, 8, 9, 10, 11, 12, 13, 14, 15, 16, 17] rfl (by decide +kernel) (va_recv hK hP (ci := 1) (q0 := 2) rfl rfl) rfl rfl hl.1 (Nat.le_of_ble_eq_true rfl) dX4_doOrderOn_91 ⟨Nat.zero_le _, Nat.zero_le _⟩ (hA2 [gh, (a 1), (a 2), (a 3), (a 4), (a 5), (a 6), (a 7), (a 8), (a 9), (a 10), (a 11), (a 12), (a 13), (a 14), (a 15)] rfl rfl) [0, 1] rfl [(h0, .inr (4, [.ref h1, .int oL, .int oA, .int oC, .int oF, .int oS, .int oD, .int oP, .int oR, .int oU])), (h1, .inl (cC, 60, .inl sg))] rfl rfl (nW := 18) rfl (by decide +kernel) (fun H locs hP hD hS => ?_)
    obtain rfl := Option.some.inj hf
    exact ret 94 ls _ H locs dX4_doOrderOn_94 rfl rfl hP hS
  replace hf := ie hc1 hf
  by_cases hc3 : oC = 102
  · replace hf := it hc3 hf
    refine lv_lookup (off := 52) (tgt := 56) hx hb dX4_doOrderOn_4 (by decide) (by rw [hc3]; decide) (by decide) ?_
    refine lv_aload_n hx hb dX4_doOrderOn_56 rfl (lv_at hl 1 rfl) ?_
    refine lv_aload_n hx hb dX4_doOrderOn_57 rfl (lv_at hl 0 rfl) ?_
    refine va_get hx hb hts n4_ hown hK hP 0 rfl rfl 4 (Nat.le_of_ble_eq_true rfl) k2_ (fun _ h => h) rfl dX4_doOrderOn_58 ?_
    refine lv_aload_n hx hb dX4_doOrderOn_61 rfl (lv_at hl 0 rfl) ?_
    refine va_get hx hb hts n4_ hown hK hP 0 rfl rfl 5 (Nat.le_of_ble_eq_true rfl) k3_ (fun _ h => h) rfl dX4_doOrderOn_62 ?_
    obtain ⟨q4, hq4, hf⟩ := ob hf
    refine cl_WV (W1 := (w_ordb cI cC h0 h1 gh a sg oL oA oC oF oS oD oP oR oU q4.2)) (As := [.int oF, .int oS]) (rest := []) hF hP hD hS (C_X1_fillIn gh a oF oS g q4 hq4) (cwV 2 hts gX4_doOrderOn_X1_fillIn rfl rfl rfl (by decide +kernel) ⟨(Nat.le_of_ble_eq_true rfl), (Nat.le_of_ble_eq_true rfl)⟩) [2, 3, 4, 5, 6, 7, 8, 9, 10, 11, 12, 13, 14, 15, 16, 17] rfl (by decide +kernel) (va_recv hK hP (ci := 1) (q0 := 2) rfl rfl) rfl rfl hl.1 (Nat.le_of_ble_eq_true rfl) dX4_doOrderOn_65 ⟨Nat.zero_le _, Nat.zero_le _⟩ (hA2 [gh, (a 1), (a 2), (a 3), (a 4), (a 5), (a 6), (a 7), (a 8), (a 9), (a 10), (a 11), (a 12), (a 13), (a 14), (a 15)] rfl rfl) [0, 1] rfl [(h0, .inr (4, [.ref h1, .int oL, .int oA, .int oC, .int oF, .int oS, .int oD, .int oP, .int oR, .int oU])), (h1, .inl (cC, 60, .inl sg))] rfl rfl (nW := 18) rfl (by decide +kernel) (fun H locs hP hD hS => ?_)
    obtain rfl := Option.some.inj hf
    exact ret 68 ls _ H locs dX4_doOrderOn_68 rfl rfl hP hS
  replace hf := ie hc3 hf
  by_cases hc5 : oC = 103
  · replace hf := it hc5 hf
    refine lv_lookup (off := 65) (tgt := 69) hx hb dX4_doOrderOn_4 (by decide) (by rw [hc5]; decide) (by decide) ?_
    refine lv_aload_n hx hb dX4_doOrderOn_69 rfl (lv_at hl 1 rfl) ?_
    refine lv_aload_n hx hb dX4_doOrderOn_70 rfl (lv_at hl 0 rfl) ?_
    refine va_get hx hb hts n4_ hown hK hP 0 rfl rfl 4 (Nat.le_of_ble_eq_true rfl) k2_ (fun _ h => h) rfl dX4_doOrderOn_71 ?_
    refine lv_aload_n hx hb dX4_doOrderOn_74 rfl (lv_at hl 0 rfl) ?_
    refine va_get hx hb hts n4_ hown hK hP 0 rfl rfl 5 (Nat.le_of_ble_eq_true rfl) k3_ (fun _ h => h) rfl dX4_doOrderOn_75 ?_
    obtain ⟨q6, hq6, hf⟩ := ob hf
    refine cl_WV (W1 := (w_ordb cI cC h0 h1 gh a sg oL oA oC oF oS oD oP oR oU q6.2)) (As := [.int oF, .int oS]) (rest := []) hF hP hD hS (C_X1_grindBy gh a oF oS g q6 hq6) (cwV 2 hts gX4_doOrderOn_X1_grindBy rfl rfl rfl (by decide +kernel) ⟨(Nat.le_of_ble_eq_true rfl), (Nat.le_of_ble_eq_true rfl)⟩) [2, 3, 4, 5, 6, 7, 8, 9, 10, 11, 12, 13, 14, 15, 16, 17] rfl (by decide +kernel) (va_recv hK hP (ci := 1) (q0 := 2) rfl rfl) rfl rfl hl.1 (Nat.le_of_ble_eq_true rfl) dX4_doOrderOn_78 ⟨Nat.zero_le _, Nat.zero_le _⟩ (hA2 [gh, (a 1), (a 2), (a 3), (a 4), (a 5), (a 6), (a 7), (a 8), (a 9), (a 10), (a 11), (a 12), (a 13), (a 14), (a 15)] rfl rfl) [0, 1] rfl [(h0, .inr (4, [.ref h1, .int oL, .int oA, .int oC, .int oF, .int oS, .int oD, .int oP, .int oR, .int oU])), (h1, .inl (cC, 60, .inl sg))] rfl rfl (nW := 18) rfl (by decide +kernel) (fun H locs hP hD hS => ?_)
    obtain rfl := Option.some.inj hf
    exact ret 81 ls _ H locs dX4_doOrderOn_81 rfl rfl hP hS
  replace hf := ie hc5 hf
  by_cases hc7 : oC = 115
  · replace hf := it hc7 hf
    refine lv_lookup (off := 100) (tgt := 104) hx hb dX4_doOrderOn_4 (by decide) (by rw [hc7]; decide) (by decide) ?_
    refine lv_aload_n hx hb dX4_doOrderOn_104 rfl (lv_at hl 1 rfl) ?_
    obtain ⟨q8, hq8, hf⟩ := ob hf
    refine cl_WV (W1 := (w_ordb cI cC h0 h1 gh a sg oL oA oC oF oS oD oP oR oU q8.2)) (As := []) (rest := []) hF hP hD hS (C_X1_makeShot gh a g q8 hq8) (cwV 0 hts gX4_doOrderOn_X1_makeShot rfl rfl rfl (by decide +kernel) ⟨(Nat.le_of_ble_eq_true rfl), (Nat.le_of_ble_eq_true rfl)⟩) [2, 3, 4, 5, 6, 7, 8, 9, 10, 11, 12, 13, 14, 15, 16, 17] rfl (by decide +kernel) (va_recv hK hP (ci := 1) (q0 := 2) rfl rfl) rfl rfl hl.1 (Nat.le_of_ble_eq_true rfl) dX4_doOrderOn_105 ⟨Nat.zero_le _, Nat.zero_le _⟩ (hA2 [gh, (a 1), (a 2), (a 3), (a 4), (a 5), (a 6), (a 7), (a 8), (a 9), (a 10), (a 11), (a 12), (a 13), (a 14), (a 15)] rfl rfl) [0, 1] rfl [(h0, .inr (4, [.ref h1, .int oL, .int oA, .int oC, .int oF, .int oS, .int oD, .int oP, .int oR, .int oU])), (h1, .inl (cC, 60, .inl sg))] rfl rfl (nW := 18) rfl (by decide +kernel) (fun H locs hP hD hS => ?_)
    obtain rfl := Option.some.inj hf
    exact ret 108 ls _ H locs dX4_doOrderOn_108 rfl rfl hP hS
  replace hf := ie hc7 hf
  by_cases hc9 : oC = 119
  · replace hf := it hc9 hf
    refine lv_lookup (off := 91) (tgt := 95) hx hb dX4_doOrderOn_4 (by decide) (by rw [hc9]; decide) (by decide) ?_
    refine lv_aload_n hx hb dX4_doOrderOn_95 rfl (lv_at hl 1 rfl) ?_
    refine lv_aload_n hx hb dX4_doOrderOn_96 rfl (lv_at hl 0 rfl) ?_
    refine va_get hx hb hts n4_ hown hK hP 0 rfl rfl 4 (Nat.le_of_ble_eq_true rfl) k2_ (fun _ h => h) rfl dX4_doOrderOn_97 ?_
    obtain ⟨q10, hq10, hf⟩ := ob hf
    refine cl_WV (W1 := (w_ordb cI cC h0 h1 gh a sg oL oA oC oF oS oD oP oR oU q10.2)) (As := [.int oF]) (rest := []) hF hP hD hS (C_X1_letPass gh a oF g q10 hq10) (cwV 1 hts gX4_doOrderOn_X1_letPass rfl rfl rfl (by decide +kernel) ⟨(Nat.le_of_ble_eq_true rfl), (Nat.le_of_ble_eq_true rfl)⟩) [2, 3, 4, 5, 6, 7, 8, 9, 10, 11, 12, 13, 14, 15, 16, 17] rfl (by decide +kernel) (va_recv hK hP (ci := 1) (q0 := 2) rfl rfl) rfl rfl hl.1 (Nat.le_of_ble_eq_true rfl) dX4_doOrderOn_100 ⟨Nat.zero_le _, Nat.zero_le _⟩ (hA2 [gh, (a 1), (a 2), (a 3), (a 4), (a 5), (a 6), (a 7), (a 8), (a 9), (a 10), (a 11), (a 12), (a 13), (a 14), (a 15)] rfl rfl) [0, 1] rfl [(h0, .inr (4, [.ref h1, .int oL, .int oA, .int oC, .int oF, .int oS, .int oD, .int oP, .int oR, .int oU])), (h1, .inl (cC, 60, .inl sg))] rfl rfl (nW := 18) rfl (by decide +kernel) (fun H locs hP hD hS => ?_)
    obtain rfl := Option.some.inj hf
    exact ret 103 ls _ H locs dX4_doOrderOn_103 rfl rfl hP hS
  replace hf := ie hc9 hf
  refine lv_lookup (off := 105) (tgt := 109) hx hb dX4_doOrderOn_4 (by decide) (by show Op.lookupswitch.offset [(98, 78), (102, 52), (103, 65), (115, 100), (119, 91)] 105 oC.toInt = _; rw [lv_osw (a := 98) hc1 rfl, lv_osw (a := 102) hc3 rfl, lv_osw (a := 103) hc5 rfl, lv_osw (a := 115) hc7 rfl, lv_osw (a := 119) hc9 rfl]; rfl) (by decide) ?_
  refine lv_aload_n hx hb dX4_doOrderOn_109 rfl (lv_at hl 1 rfl) ?_
  obtain ⟨q11, hq11, hf⟩ := ob hf
  refine cl_WV (W1 := (w_ordb cI cC h0 h1 gh a sg oL oA oC oF oS oD oP oR oU q11.2)) (As := []) (rest := []) hF hP hD hS (C_X1_emptyChute gh a g q11 hq11) (cwV 0 hts gX4_doOrderOn_X1_emptyChute rfl rfl rfl (by decide +kernel) ⟨(Nat.le_of_ble_eq_true rfl), (Nat.le_of_ble_eq_true rfl)⟩) [2, 3, 4, 5, 6, 7, 8, 9, 10, 11, 12, 13, 14, 15, 16, 17] rfl (by decide +kernel) (va_recv hK hP (ci := 1) (q0 := 2) rfl rfl) rfl rfl hl.1 (Nat.le_of_ble_eq_true rfl) dX4_doOrderOn_110 ⟨Nat.zero_le _, Nat.zero_le _⟩ (hA2 [gh, (a 1), (a 2), (a 3), (a 4), (a 5), (a 6), (a 7), (a 8), (a 9), (a 10), (a 11), (a 12), (a 13), (a 14), (a 15)] rfl rfl) [0, 1] rfl [(h0, .inr (4, [.ref h1, .int oL, .int oA, .int oC, .int oF, .int oS, .int oD, .int oP, .int oR, .int oU])), (h1, .inl (cC, 60, .inl sg))] rfl rfl (nW := 18) rfl (by decide +kernel) (fun H locs hP hD hS => ?_)
  obtain rfl := Option.some.inj hf
  exact ret 113 ls _ H locs dX4_doOrderOn_113 rfl rfl hP hS
abbrev rmX4_doAllOn : Room := { frames := 6, cells := 0, slots := 0, locals := 177 }
set_option maxHeartbeats 4000000 in
set_option maxRecDepth 100000 in
theorem c_X4_doAllOn (h0 : Nat) (h1 : Nat) (gh : Nat) (a : Nat → Nat) (sg : Nat → Int32) (oL : Int32) (oA : Int32) (oC : Int32) (oF : Int32) (oS : Int32) (oD : Int32) (oP : Int32) (oR : Int32) (oU : Int32) (g : Gr) (R : Int32 × Int32 × Int32 × Int32 × Int32 × Int32 × Int32 × Int32 × Gr) (hf : f_X4_doAllOn sg oL oA oC oF oS oD oP oR oU g = some R) : WrV l yX4_doAllOn wsX4_doAllOn rmX4_doAllOn D cI cC (w_ordb cI cC h0 h1 gh a sg oL oA oC oF oS oD oP oR oU g) (w_ordb cI cC h0 h1 gh a sg oL R.1 R.2.1 R.2.2.1 R.2.2.2.1 R.2.2.2.2.1 R.2.2.2.2.2.1 R.2.2.2.2.2.2.1 R.2.2.2.2.2.2.2.1 R.2.2.2.2.2.2.2.2) [.ref h0, .ref gh] := by
  refine en_V (cc := cX4_doAllOn) (n := 4) (by decide) rfl (Nat.le_of_ble_eq_true rfl) ?_
  intro p e s m args below meth c Q AA ls hx hb hml hown hts hK hN hP hD hS hl ret
  have hown : s.vm.findClass RX4 = some m.cls := hown
  have hF : FX p m c cX4_doAllOn 4 s args wsX4_doAllOn RX4 D cI cC := ⟨⟨hx, hb, hml, hown, hts⟩, hK, hN⟩
  have hl : lv_has ls 4 [(0, .ref h0), (1, .ref gh)] := hl
  have k1_ := hts (.fieldLink RX4 20 "DriftGrinders$Orders" "faultReason" "I") (List.mem_of_getElem? (i := 1) rfl)
  have k2_ := hts (.fieldLink RX4 34 "DriftGrinders$Orders" "at" "I") (List.mem_of_getElem? (i := 2) rfl)
  have k3_ := hts (.fieldLink RX4 37 "DriftGrinders$Orders" "ordersDone" "I") (List.mem_of_getElem? (i := 3) rfl)
  have k4_ := hts (.fieldLink RX4 15 "DriftGrinders$Orders" "length" "I") (List.mem_of_getElem? (i := 4) rfl)
  have n4_ : ∀ w ∈ wsX40, w ∈ wsX4_doAllOn := fun _ h => List.mem_cons_of_mem _ (List.mem_append_left _ (List.mem_append_left _ (List.mem_append_left _ (List.mem_append_left _ (List.mem_append_left _ (List.mem_append_right _ h))))))
  have L15 : ∀ n15 : Nat, ∀ (oA_15 : Int32) (oC_15 : Int32) (oF_15 : Int32) (oS_15 : Int32) (oD_15 : Int32) (oP_15 : Int32) (oR_15 : Int32) (oU_15 : Int32) (g_15 : Gr) (H : Heap) (locs : List Loc), va_P D vwCl (w_ordb cI cC h0 h1 gh a sg oL oA_15 oC_15 oF_15 oS_15 oD_15 oP_15 oR_15 oU_15 g_15) H → va_D AA (w_ordb cI cC h0 h1 gh a sg oL oA_15 oC_15 oF_15 oS_15 oD_15 oP_15 oR_15 oU_15 g_15) → va_S AA s.heap H locs → ∀ ls : Array Slot, lv_has ls 4 [(0, .ref h0), (1, .ref gh)] → f_X4_doAllOn_L15 sg oL n15 oA_15 oC_15 oF_15 oS_15 oD_15 oP_15 oR_15 oU_15 g_15 = some R → W p l e rmX4_doAllOn s m args below meth c H locs 0 0 Q (F0 m 15 ls []) := by
    intro n15
    induction n15 with
    | zero => intro oA_15 oC_15 oF_15 oS_15 oD_15 oP_15 oR_15 oU_15 g_15 H locs hP hD hS ls hl hf; rw [f_X4_doAllOn_L15] at hf; cases hf
    | succ n15 IH15 =>
      intro oA_15 oC_15 oF_15 oS_15 oD_15 oP_15 oR_15 oU_15 g_15 H locs hP hD hS ls hl hf
      rw [f_X4_doAllOn_L15] at hf
      refine lv_aload_n hx hb dX4_doAllOn_15 rfl (lv_at hl 0 rfl) ?_
      refine va_get hx hb hts n4_ hown hK hP 0 rfl rfl 6 (Nat.le_of_ble_eq_true rfl) k3_ (fun _ h => h) rfl dX4_doAllOn_16 ?_
      refine lv_bipush (v := (60 : Int32)) hx hb dX4_doAllOn_19 (by decide) ?_
      refine lv_icmp_ge (tgt := 91) hx hb dX4_doAllOn_21 (by decide) (fun hc1 => ?_) (fun hc1 => ?_)
      · replace hf := it hc1 hf
        obtain rfl := Option.some.inj hf
        exact ret 91 ls H locs dX4_doAllOn_91 hP hS
      · replace hf := ie hc1 hf
        refine lv_aload_n hx hb dX4_doAllOn_24 rfl (lv_at hl 0 rfl) ?_
        refine va_get hx hb hts n4_ hown hK hP 0 rfl rfl 2 (Nat.le_of_ble_eq_true rfl) k2_ (fun _ h => h) rfl dX4_doAllOn_25 ?_
        refine lv_aload_n hx hb dX4_doAllOn_28 rfl (lv_at hl 0 rfl) ?_
        refine va_get hx hb hts n4_ hown hK hP 0 rfl rfl 1 (Nat.le_of_ble_eq_true rfl) k4_ (fun _ h => h) rfl dX4_doAllOn_29 ?_
        refine lv_icmp_ge (tgt := 91) hx hb dX4_doAllOn_32 (by decide) (fun hc2 => ?_) (fun hc2 => ?_)
        · replace hf := it hc2 hf
          obtain rfl := Option.some.inj hf
          exact ret 91 ls H locs dX4_doAllOn_91 hP hS
        · replace hf := ie hc2 hf
          refine lv_aload_n hx hb dX4_doAllOn_35 rfl (lv_at hl 0 rfl) ?_
          refine va_get hx hb hts n4_ hown hK hP 0 rfl rfl 2 (Nat.le_of_ble_eq_true rfl) k2_ (fun _ h => h) rfl dX4_doAllOn_36 ?_
          refine lv_istore_n (lv' := [(2, .int oA_15), (0, .ref h0), (1, .ref gh)]) hx hb dX4_doAllOn_39 rfl hl (by decide) rfl (fun ls hl => ?_)
          refine lv_aload_n hx hb dX4_doAllOn_40 rfl (lv_at hl 1 rfl) ?_
          obtain ⟨q3, hq3, hf⟩ := ob hf
          refine cl_WV (W1 := (w_ordb cI cC h0 h1 gh a sg oL q3.2.1 q3.2.2.1 q3.2.2.2.1 q3.2.2.2.2 oD_15 oP_15 oR_15 oU_15 g_15)) (As := []) (rest := []) hF hP hD hS (c_X4_readOrder h0 h1 sg oL oA_15 oC_15 oF_15 oS_15 oD_15 oP_15 oR_15 oU_15 q3 hq3) (cwV 0 hts gX4_doAllOn_X4_readOrder rfl rfl rfl (by decide +kernel) ⟨(Nat.le_of_ble_eq_true rfl), (Nat.le_of_ble_eq_true rfl)⟩) [0, 1] rfl (by decide +kernel) (va_recv hK hP (ci := 4) (q0 := 0) rfl rfl) rfl rfl hl.1 (Nat.le_of_ble_eq_true rfl) dX4_doAllOn_41 ⟨Nat.zero_le _, Nat.zero_le _⟩ (hA2 [h0, h1] rfl rfl) [2, 3, 4, 5, 6, 7, 8, 9, 10, 11, 12, 13, 14, 15, 16, 17] rfl [(gh, .inr (1, [.ref (a 1), .ref (a 5), .ref (a 6), .ref (a 7), .ref (a 10), .ref (a 13), .ref (a 15), .int g_15.2.2.2.2.2.2.2.2.2.2.2.2.2.2.2.2.2.2.2.2.2.2.2.2.1, .int g_15.2.2.2.2.2.2.2.2.2.2.2.2.2.2.2.2.2.2.2.2.2.2.2.2.2.1, .int g_15.2.2.2.2.2.2.2.2.2.2.2.2.2.2.2.2.2.2.2.2.2.2.2.2.2.2.1, .int g_15.2.2.2.2.2.2.2.2.2.2.2.2.2.2.2.2.2.2.2.2.2.2.2.2.2.2.2.1, .int g_15.2.2.2.2.2.2.2.2.2.2.2.2.2.2.2.2.2.2.2.2.2.2.2.2.2.2.2.2.1, .int g_15.2.2.2.2.2.2.2.2.2.2.2.2.2.2.2.2.2.2.2.2.2.2.2.2.2.2.2.2.2])), ((a 1), .inr (3, [.ref (a 2)])), ((a 2), .inr (5, [.ref (a 3), .ref (a 4), .int g_15.2.2.1, .int g_15.2.2.2.1])), ((a 3), .inl (cI, 6, .inl g_15.1)), ((a 4), .inl (cI, 6, .inl g_15.2.1)), ((a 5), .inr (0, [.int g_15.2.2.2.2.1, .int g_15.2.2.2.2.2.1, .int g_15.2.2.2.2.2.2.1, .int g_15.2.2.2.2.2.2.2.1])), ((a 6), .inr (0, [.int g_15.2.2.2.2.2.2.2.2.1, .int g_15.2.2.2.2.2.2.2.2.2.1, .int g_15.2.2.2.2.2.2.2.2.2.2.1, .int g_15.2.2.2.2.2.2.2.2.2.2.2.1])), ((a 7), .inr (5, [.ref (a 8), .ref (a 9), .int g_15.2.2.2.2.2.2.2.2.2.2.2.2.2.2.1, .int g_15.2.2.2.2.2.2.2.2.2.2.2.2.2.2.2.1])), ((a 8), .inl (cI, 106, .inl g_15.2.2.2.2.2.2.2.2.2.2.2.2.1)), ((a 9), .inl (cI, 106, .inl g_15.2.2.2.2.2.2.2.2.2.2.2.2.2.1)), ((a 10), .inr (5, [.ref (a 11), .ref (a 12), .int g_15.2.2.2.2.2.2.2.2.2.2.2.2.2.2.2.2.2.2.1, .int g_15.2.2.2.2.2.2.2.2.2.2.2.2.2.2.2.2.2.2.2.1])), ((a 11), .inl (cI, 400, .inl g_15.2.2.2.2.2.2.2.2.2.2.2.2.2.2.2.2.1)), ((a 12), .inl (cI, 400, .inl g_15.2.2.2.2.2.2.2.2.2.2.2.2.2.2.2.2.2.1)), ((a 13), .inr (6, [.ref (a 14), .int g_15.2.2.2.2.2.2.2.2.2.2.2.2.2.2.2.2.2.2.2.2.2.1, .int g_15.2.2.2.2.2.2.2.2.2.2.2.2.2.2.2.2.2.2.2.2.2.2.1])), ((a 14), .inl (cI, 96, .inl g_15.2.2.2.2.2.2.2.2.2.2.2.2.2.2.2.2.2.2.2.2.1)), ((a 15), .inl (cI, 6, .inl g_15.2.2.2.2.2.2.2.2.2.2.2.2.2.2.2.2.2.2.2.2.2.2.2.1))] rfl rfl (nW := 18) rfl (by decide +kernel) (fun H locs hP hD hS => ?_)
          refine lv_if_ne (tgt := 60) hx hb dX4_doAllOn_44 (by decide) (fun hc4 => ?_) (fun hc4 => ?_)
          · replace hf := ie hc4 hf
            refine lv_aload_n hx hb dX4_doAllOn_60 rfl (lv_at hl 1 rfl) ?_
            refine lv_aload_n hx hb dX4_doAllOn_61 rfl (lv_at hl 2 rfl) ?_
            obtain ⟨q5, hq5, hf⟩ := ob hf
            refine cl_WV (W1 := (w_ordb cI cC h0 h1 gh a sg oL q3.2.1 q3.2.2.1 q3.2.2.2.1 q3.2.2.2.2 oD_15 oP_15 oR_15 oU_15 q5.2)) (As := [.ref gh]) (rest := []) hF hP hD hS (c_X4_doOrderOn h0 h1 gh a sg oL q3.2.1 q3.2.2.1 q3.2.2.2.1 q3.2.2.2.2 oD_15 oP_15 oR_15 oU_15 g_15 q5 hq5) (cwV 1 hts gX4_doAllOn_X4_doOrderOn rfl rfl rfl (by decide +kernel) ⟨(Nat.le_of_ble_eq_true rfl), (Nat.le_of_ble_eq_true rfl)⟩) [0, 1, 2, 3, 4, 5, 6, 7, 8, 9, 10, 11, 12, 13, 14, 15, 16, 17] rfl (by decide +kernel) (va_recv hK hP (ci := 4) (q0 := 0) rfl rfl) rfl rfl hl.1 (Nat.le_of_ble_eq_true rfl) dX4_doAllOn_62 ⟨Nat.zero_le _, Nat.zero_le _⟩ (hA2 [h0, h1, gh, (a 1), (a 2), (a 3), (a 4), (a 5), (a 6), (a 7), (a 8), (a 9), (a 10), (a 11), (a 12), (a 13), (a 14), (a 15)] rfl rfl) [] rfl [] rfl rfl (nW := 18) rfl (by decide +kernel) (fun H locs hP hD hS => ?_)
            refine lv_istore_n (lv' := [(3, .int q5.1), (2, .int oA_15), (0, .ref h0), (1, .ref gh)]) hx hb dX4_doAllOn_65 rfl hl (by decide) rfl (fun ls hl => ?_)
            refine lv_iload_n hx hb dX4_doAllOn_66 rfl (lv_at hl 0 rfl) ?_
            refine lv_if_ge (tgt := 78) hx hb dX4_doAllOn_67 (by decide) (fun hc6 => ?_) (fun hc6 => ?_)
            · replace hf := it hc6 hf
              refine lv_aload_n hx hb dX4_doAllOn_78 rfl (lv_at hl 2 rfl) ?_
              refine lv_dup hx hb dX4_doAllOn_79 rfl ?_
              refine va_get hx hb hts n4_ hown hK hP 0 rfl rfl 6 (Nat.le_of_ble_eq_true rfl) k3_ (fun _ h => h) rfl dX4_doAllOn_80 ?_
              refine lv_iconst (v := (1 : Int32)) hx hb dX4_doAllOn_83 (by decide) ?_
              refine lv_iadd hx hb dX4_doAllOn_84 ?_
              refine lv_topi (fun v7 ev7 => ?_)
              replace hf := lt_e ev7 hf
              refine va_put hx hb hts n4_ tyX4 tyX4_ok nmX4 hown hK hP hD hS 0 rfl rfl 6 (Nat.le_of_ble_eq_true rfl) k3_ (fun _ h => h) rfl (v := .int v7) (tyX4_ok 6 (Nat.le_of_ble_eq_true rfl)) rfl rfl (Nat.le_of_ble_eq_true rfl) dX4_doAllOn_85 (fun H locs hP hD hS => ?_)
              have hP : va_P D vwCl (w_ordb cI cC h0 h1 gh a sg oL q3.2.1 q3.2.2.1 q3.2.2.2.1 q3.2.2.2.2 v7 oP_15 oR_15 oU_15 q5.2) H := hP
              have hD : va_D AA (w_ordb cI cC h0 h1 gh a sg oL q3.2.1 q3.2.2.1 q3.2.2.2.1 q3.2.2.2.2 v7 oP_15 oR_15 oU_15 q5.2) := hD
              refine lv_goto (tgt := 15) hx hb dX4_doAllOn_88 (by decide) ?_
              exact IH15 q3.2.1 q3.2.2.1 q3.2.2.2.1 q3.2.2.2.2 v7 oP_15 oR_15 oU_15 q5.2 H locs hP hD hS ls (lv_sub hl [2, 3] rfl) hf
            · replace hf := ie hc6 hf
              refine lv_aload_n hx hb dX4_doAllOn_70 rfl (lv_at hl 2 rfl) ?_
              refine lv_iload_n hx hb dX4_doAllOn_71 rfl (lv_at hl 1 rfl) ?_
              refine lv_iconst (v := (2 : Int32)) hx hb dX4_doAllOn_72 (by decide) ?_
              refine lv_iload_n hx hb dX4_doAllOn_73 rfl (lv_at hl 0 rfl) ?_
              obtain ⟨q8, hq8, hf⟩ := ob hf
              refine cl_VV (W1 := (w_ordb cI cC h0 h1 gh a sg oL q3.2.1 q3.2.2.1 q3.2.2.2.1 q3.2.2.2.2 oD_15 q8.1 q8.2.1 q8.2.2 q5.2)) (As := [.int oA_15, .int (2 : Int32), .int q5.1]) (rest := []) hF hP hD hS (c_X4_blame h0 h1 oA_15 (2 : Int32) q5.1 sg oL q3.2.1 q3.2.2.1 q3.2.2.2.1 q3.2.2.2.2 oD_15 oP_15 oR_15 oU_15 q8 hq8) (cwV 3 hts gX4_doAllOn_X4_blame rfl rfl rfl (by decide +kernel) ⟨(Nat.le_of_ble_eq_true rfl), (Nat.le_of_ble_eq_true rfl)⟩) [0, 1] rfl (by decide +kernel) (va_recv hK hP (ci := 4) (q0 := 0) rfl rfl) rfl rfl hl.1 (Nat.le_of_ble_eq_true rfl) dX4_doAllOn_74 ⟨Nat.zero_le _, Nat.zero_le _⟩ (hA2 [h0, h1] rfl rfl) [2, 3, 4, 5, 6, 7, 8, 9, 10, 11, 12, 13, 14, 15, 16, 17] rfl [(gh, .inr (1, [.ref (a 1), .ref (a 5), .ref (a 6), .ref (a 7), .ref (a 10), .ref (a 13), .ref (a 15), .int q5.2.2.2.2.2.2.2.2.2.2.2.2.2.2.2.2.2.2.2.2.2.2.2.2.2.1, .int q5.2.2.2.2.2.2.2.2.2.2.2.2.2.2.2.2.2.2.2.2.2.2.2.2.2.2.1, .int q5.2.2.2.2.2.2.2.2.2.2.2.2.2.2.2.2.2.2.2.2.2.2.2.2.2.2.2.1, .int q5.2.2.2.2.2.2.2.2.2.2.2.2.2.2.2.2.2.2.2.2.2.2.2.2.2.2.2.2.1, .int q5.2.2.2.2.2.2.2.2.2.2.2.2.2.2.2.2.2.2.2.2.2.2.2.2.2.2.2.2.2.1, .int q5.2.2.2.2.2.2.2.2.2.2.2.2.2.2.2.2.2.2.2.2.2.2.2.2.2.2.2.2.2.2])), ((a 1), .inr (3, [.ref (a 2)])), ((a 2), .inr (5, [.ref (a 3), .ref (a 4), .int q5.2.2.2.1, .int q5.2.2.2.2.1])), ((a 3), .inl (cI, 6, .inl q5.2.1)), ((a 4), .inl (cI, 6, .inl q5.2.2.1)), ((a 5), .inr (0, [.int q5.2.2.2.2.2.1, .int q5.2.2.2.2.2.2.1, .int q5.2.2.2.2.2.2.2.1, .int q5.2.2.2.2.2.2.2.2.1])), ((a 6), .inr (0, [.int q5.2.2.2.2.2.2.2.2.2.1, .int q5.2.2.2.2.2.2.2.2.2.2.1, .int q5.2.2.2.2.2.2.2.2.2.2.2.1, .int q5.2.2.2.2.2.2.2.2.2.2.2.2.1])), ((a 7), .inr (5, [.ref (a 8), .ref (a 9), .int q5.2.2.2.2.2.2.2.2.2.2.2.2.2.2.2.1, .int q5.2.2.2.2.2.2.2.2.2.2.2.2.2.2.2.2.1])), ((a 8), .inl (cI, 106, .inl q5.2.2.2.2.2.2.2.2.2.2.2.2.2.1)), ((a 9), .inl (cI, 106, .inl q5.2.2.2.2.2.2.2.2.2.2.2.2.2.2.1)), ((a 10), .inr (5, [.ref (a 11), .ref (a 12), .int q5.2.2.2.2.2.2.2.2.2.2.2.2.2.2.2.2.2.2.2.1, .int q5.2.2.2.2.2.2.2.2.2.2.2.2.2.2.2.2.2.2.2.2.1])), ((a 11), .inl (cI, 400, .inl q5.2.2.2.2.2.2.2.2.2.2.2.2.2.2.2.2.2.1)), ((a 12), .inl (cI, 400, .inl q5.2.2.2.2.2.2.2.2.2.2.2.2.2.2.2.2.2.2.1)), ((a 13), .inr (6, [.ref (a 14), .int q5.2.2.2.2.2.2.2.2.2.2.2.2.2.2.2.2.2.2.2.2.2.2.1, .int q5.2.2.2.2.2.2.2.2.2.2.2.2.2.2.2.2.2.2.2.2.2.2.2.1])), ((a 14), .inl (cI, 96, .inl q5.2.2.2.2.2.2.2.2.2.2.2.2.2.2.2.2.2.2.2.2.2.1)), ((a 15), .inl (cI, 6, .inl q5.2.2.2.2.2.2.2.2.2.2.2.2.2.2.2.2.2.2.2.2.2.2.2.2.1))] rfl rfl (nW := 18) rfl (by decide +kernel) (fun H locs hP hD hS => ?_)
              obtain rfl := Option.some.inj hf
              exact ret 77 ls H locs dX4_doAllOn_77 hP hS
          · replace hf := it hc4 hf
            refine lv_aload_n hx hb dX4_doAllOn_47 rfl (lv_at hl 1 rfl) ?_
            refine lv_iload_n hx hb dX4_doAllOn_48 rfl (lv_at hl 0 rfl) ?_
            refine lv_iconst (v := (1 : Int32)) hx hb dX4_doAllOn_49 (by decide) ?_
            refine lv_aload_n hx hb dX4_doAllOn_50 rfl (lv_at hl 1 rfl) ?_
            refine va_get hx hb hts n4_ hown hK hP 0 rfl rfl 2 (Nat.le_of_ble_eq_true rfl) k2_ (fun _ h => h) rfl dX4_doAllOn_51 ?_
            refine lv_iload_n hx hb dX4_doAllOn_54 rfl (lv_at hl 0 rfl) ?_
            refine lv_isub hx hb dX4_doAllOn_55 ?_
            obtain ⟨q9, hq9, hf⟩ := ob hf
            refine cl_VV (W1 := (w_ordb cI cC h0 h1 gh a sg oL q3.2.1 q3.2.2.1 q3.2.2.2.1 q3.2.2.2.2 oD_15 q9.1 q9.2.1 q9.2.2 g_15)) (As := [.int oA_15, .int (1 : Int32), .int (q3.2.1 - oA_15)]) (rest := []) hF hP hD hS (c_X4_blame h0 h1 oA_15 (1 : Int32) (q3.2.1 - oA_15) sg oL q3.2.1 q3.2.2.1 q3.2.2.2.1 q3.2.2.2.2 oD_15 oP_15 oR_15 oU_15 q9 hq9) (cwV 3 hts gX4_doAllOn_X4_blame rfl rfl rfl (by decide +kernel) ⟨(Nat.le_of_ble_eq_true rfl), (Nat.le_of_ble_eq_true rfl)⟩) [0, 1] rfl (by decide +kernel) (va_recv hK hP (ci := 4) (q0 := 0) rfl rfl) rfl rfl hl.1 (Nat.le_of_ble_eq_true rfl) dX4_doAllOn_56 ⟨Nat.zero_le _, Nat.zero_le _⟩ (hA2 [h0, h1] rfl rfl) [2, 3, 4, 5, 6, 7, 8, 9, 10, 11, 12, 13, 14, 15, 16, 17] rfl [(gh, .inr (1, [.ref (a 1), .ref (a 5), .ref (a 6), .ref (a 7), .ref (a 10), .ref (a 13), .ref (a 15), .int g_15.2.2.2.2.2.2.2.2.2.2.2.2.2.2.2.2.2.2.2.2.2.2.2.2.1, .int g_15.2.2.2.2.2.2.2.2.2.2.2.2.2.2.2.2.2.2.2.2.2.2.2.2.2.1, .int g_15.2.2.2.2.2.2.2.2.2.2.2.2.2.2.2.2.2.2.2.2.2.2.2.2.2.2.1, .int g_15.2.2.2.2.2.2.2.2.2.2.2.2.2.2.2.2.2.2.2.2.2.2.2.2.2.2.2.1, .int g_15.2.2.2.2.2.2.2.2.2.2.2.2.2.2.2.2.2.2.2.2.2.2.2.2.2.2.2.2.1, .int g_15.2.2.2.2.2.2.2.2.2.2.2.2.2.2.2.2.2.2.2.2.2.2.2.2.2.2.2.2.2])), ((a 1), .inr (3, [.ref (a 2)])), ((a 2), .inr (5, [.ref (a 3), .ref (a 4), .int g_15.2.2.1, .int g_15.2.2.2.1])), ((a 3), .inl (cI, 6, .inl g_15.1)), ((a 4), .inl (cI, 6, .inl g_15.2.1)), ((a 5), .inr (0, [.int g_15.2.2.2.2.1, .int g_15.2.2.2.2.2.1, .int g_15.2.2.2.2.2.2.1, .int g_15.2.2.2.2.2.2.2.1])), ((a 6), .inr (0, [.int g_15.2.2.2.2.2.2.2.2.1, .int g_15.2.2.2.2.2.2.2.2.2.1, .int g_15.2.2.2.2.2.2.2.2.2.2.1, .int g_15.2.2.2.2.2.2.2.2.2.2.2.1])), ((a 7), .inr (5, [.ref (a 8), .ref (a 9), .int g_15.2.2.2.2.2.2.2.2.2.2.2.2.2.2.1, .int g_15.2.2.2.2.2.2.2.2.2.2.2.2.2.2.2.1])), ((a 8), .inl (cI, 106, .inl g_15.2.2.2.2.2.2.2.2.2.2.2.2.1)), ((a 9), .inl (cI, 106, .inl g_15.2.2.2.2.2.2.2.2.2.2.2.2.2.1)), ((a 10), .inr (5, [.ref (a 11), .ref (a 12), .int g_15.2.2.2.2.2.2.2.2.2.2.2.2.2.2.2.2.2.2.1, .int g_15.2.2.2.2.2.2.2.2.2.2.2.2.2.2.2.2.2.2.2.1])), ((a 11), .inl (cI, 400, .inl g_15.2.2.2.2.2.2.2.2.2.2.2.2.2.2.2.2.1)), ((a 12), .inl (cI, 400, .inl g_15.2.2.2.2.2.2.2.2.2.2.2.2.2.2.2.2.2.1)), ((a 13), .inr (6, [.ref (a 14), .int g_15.2.2.2.2.2.2.2.2.2.2.2.2.2.2.2.2.2.2.2.2.2.1, .int g_15.2.2.2.2.2.2.2.2.2.2.2.2.2.2.2.2.2.2.2.2.2.2.1])), ((a 14), .inl (cI, 96, .inl g_15.2.2.2.2.2.2.2.2.2.2.2.2.2.2.2.2.2.2.2.2.1)), ((a 15), .inl (cI, 6, .inl g_15.2.2.2.2.2.2.2.2.2.2.2.2.2.2.2.2.2.2.2.2.2.2.2.1))] rfl rfl (nW := 18) rfl (by decide +kernel) (fun H locs hP hD hS => ?_)
            obtain rfl := Option.some.inj hf
            exact ret 59 ls H locs dX4_doAllOn_59 hP hS
  rw [f_X4_doAllOn] at hf
  obtain ⟨H, hH⟩ : ∃ z : Heap, z = s.heap := ⟨_, rfl⟩
  obtain ⟨locs, hL⟩ : ∃ z : List Loc, z = [] := ⟨_, rfl⟩
  replace hP := hH ▸ hP
  replace hS : va_S AA s.heap H locs := by rw [hH, hL]; exact hS
  suffices hgoal : W p l e rmX4_doAllOn s m args below meth c H locs 0 0 Q (F0 m 0 ls []) by rw [hH, hL] at hgoal; exact hgoal
  clear hH hL
  refine lv_aload_n hx hb dX4_doAllOn_0 rfl (lv_at hl 0 rfl) ?_
  refine lv_iconst (v := (0 : Int32)) hx hb dX4_doAllOn_1 (by decide) ?_
  refine va_put hx hb hts n4_ tyX4 tyX4_ok nmX4 hown hK hP hD hS 0 rfl rfl 8 (Nat.le_of_ble_eq_true rfl) k1_ (fun _ h => h) rfl (v := .int (0 : Int32)) (tyX4_ok 8 (Nat.le_of_ble_eq_true rfl)) rfl rfl (Nat.le_of_ble_eq_true rfl) dX4_doAllOn_2 (fun H locs hP hD hS => ?_)
  have hP : va_P D vwCl (w_ordb cI cC h0 h1 gh a sg oL oA oC oF oS oD oP (0 : Int32) oU g) H := hP
  have hD : va_D AA (w_ordb cI cC h0 h1 gh a sg oL oA oC oF oS oD oP (0 : Int32) oU g) := hD
  refine lv_aload_n hx hb dX4_doAllOn_5 rfl (lv_at hl 0 rfl) ?_
  refine lv_iconst (v := (0 : Int32)) hx hb dX4_doAllOn_6 (by decide) ?_
  refine va_put hx hb hts n4_ tyX4 tyX4_ok nmX4 hown hK hP hD hS 0 rfl rfl 2 (Nat.le_of_ble_eq_true rfl) k2_ (fun _ h => h) rfl (v := .int (0 : Int32)) (tyX4_ok 2 (Nat.le_of_ble_eq_true rfl)) rfl rfl (Nat.le_of_ble_eq_true rfl) dX4_doAllOn_7 (fun H locs hP hD hS => ?_)
  have hP : va_P D vwCl (w_ordb cI cC h0 h1 gh a sg oL (0 : Int32) oC oF oS oD oP (0 : Int32) oU g) H := hP
  have hD : va_D AA (w_ordb cI cC h0 h1 gh a sg oL (0 : Int32) oC oF oS oD oP (0 : Int32) oU g) := hD
  refine lv_aload_n hx hb dX4_doAllOn_10 rfl (lv_at hl 0 rfl) ?_
  refine lv_iconst (v := (0 : Int32)) hx hb dX4_doAllOn_11 (by decide) ?_
  refine va_put hx hb hts n4_ tyX4 tyX4_ok nmX4 hown hK hP hD hS 0 rfl rfl 6 (Nat.le_of_ble_eq_true rfl) k3_ (fun _ h => h) rfl (v := .int (0 : Int32)) (tyX4_ok 6 (Nat.le_of_ble_eq_true rfl)) rfl rfl (Nat.le_of_ble_eq_true rfl) dX4_doAllOn_12 (fun H locs hP hD hS => ?_)
  have hP : va_P D vwCl (w_ordb cI cC h0 h1 gh a sg oL (0 : Int32) oC oF oS (0 : Int32) oP (0 : Int32) oU g) H := hP
  have hD : va_D AA (w_ordb cI cC h0 h1 gh a sg oL (0 : Int32) oC oF oS (0 : Int32) oP (0 : Int32) oU g) := hD
  exact L15 FU (0 : Int32) oC oF oS (0 : Int32) oP (0 : Int32) oU g H locs hP hD hS ls (lv_sub hl [0, 1] rfl) hf
end
