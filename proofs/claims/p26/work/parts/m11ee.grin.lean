section
variable {l : Launch} {D : va_G} {cI cC : ClassId}

abbrev rmX1_makeShot : Room := { frames := 4, cells := 0, slots := 0, locals := 86 }
set_option maxHeartbeats 4000000 in
set_option maxRecDepth 100000 in
theorem c_X1_makeShot (gh : Nat) (a : Nat → Nat) (pA : Nat → Int32) (pM : Nat → Int32) (pn : Int32) (pt : Int32) (d0 : Int32) (w0 : Int32) (g0 : Int32) (k0 : Int32) (d1 : Int32) (w1 : Int32) (g1 : Int32) (k1 : Int32) (qA : Nat → Int32) (qM : Nat → Int32) (qn : Int32) (qt : Int32) (uA : Nat → Int32) (uM : Nat → Int32) (un : Int32) (ut : Int32) (sF : Nat → Int32) (sk : Int32) (sm : Int32) (st : Nat → Int32) (se : Int32) (fi : Int32) (gr : Int32) (br : Int32) (pu : Int32) (nr : Int32) (R : Int32 × Int32 × Int32 × Int32 × Int32 × Int32 × Int32 × Int32 × Int32 × (Nat → Int32) × Int32 × Int32 × Int32 × Int32 × Int32) (hf : f_X1_makeShot d0 w0 k0 d1 w1 k1 uA uM un ut sF sk sm st se br nr = some R) : WrI l yX1_makeShot wsX1_makeShot rmX1_makeShot D cI cC (w_grinder cI cC gh a pA pM pn pt d0 w0 g0 k0 d1 w1 g1 k1 qA qM qn qt uA uM un ut sF sk sm st se fi gr br pu nr) (w_grinder cI cC gh a pA pM pn pt R.2.1 R.2.2.1 g0 R.2.2.2.1 R.2.2.2.2.1 R.2.2.2.2.2.1 g1 R.2.2.2.2.2.2.1 qA qM qn qt uA uM R.2.2.2.2.2.2.2.1 R.2.2.2.2.2.2.2.2.1 R.2.2.2.2.2.2.2.2.2.1 R.2.2.2.2.2.2.2.2.2.2.1 R.2.2.2.2.2.2.2.2.2.2.2.1 st R.2.2.2.2.2.2.2.2.2.2.2.2.1 fi gr R.2.2.2.2.2.2.2.2.2.2.2.2.2.1 pu R.2.2.2.2.2.2.2.2.2.2.2.2.2.2) [.ref gh] R.1 := by
  refine en_W (cc := cX1_makeShot) (n := 4) (by decide) rfl (Nat.le_of_ble_eq_true rfl) ?_
  intro p e s m args below meth c Q AA ls hx hb hml hown hts hK hN hP hD hS hl ret
  have hown : s.vm.findClass RX1 = some m.cls := hown
  have hF : FX p m c cX1_makeShot 4 s args wsX1_makeShot RX1 D cI cC := ⟨⟨hx, hb, hml, hown, hts⟩, hK, hN⟩
  have hl : lv_has ls 4 [(0, .ref gh)] := hl
  have k1_ := hts (.fieldLink RX1 37 "DriftGrinders$Grinder" "basket" "LDriftGrinders$Row;") (List.mem_of_getElem? (i := 1) rfl)
  have k2_ := hts (.fieldLink RX1 43 "DriftGrinders$Grinder" "shots" "LDriftGrinders$Shots;") (List.mem_of_getElem? (i := 2) rfl)
  have k3_ := hts (.fieldLink RX1 70 "DriftGrinders$Grinder" "second" "I") (List.mem_of_getElem? (i := 3) rfl)
  have k4_ := hts (.fieldLink RX1 80 "DriftGrinders$Grinder" "brewed" "I") (List.mem_of_getElem? (i := 4) rfl)
  have n1_ : ∀ w ∈ wsX10, w ∈ wsX1_makeShot := fun _ h => List.mem_cons_of_mem _ (List.mem_append_left _ (List.mem_append_left _ (List.mem_append_left _ (List.mem_append_right _ h))))
  have n5_ : ∀ w ∈ wsX50, w ∈ wsX1_makeShot := fun _ h => List.mem_cons_of_mem _ (List.mem_append_left _ (List.mem_append_left _ (List.mem_append_right _ h)))
  have J44 : ∀ (y1_44 : Int32) (y2_44 : Int32) (z0_44 : Int32) (d0_44 : Int32) (w0_44 : Int32) (k0_44 : Int32) (d1_44 : Int32) (w1_44 : Int32) (k1_44 : Int32) (un_44 : Int32) (ut_44 : Int32) (sF_44 : Nat → Int32) (sk_44 : Int32) (sm_44 : Int32) (se_44 : Int32) (br_44 : Int32) (nr_44 : Int32) (H : Heap) (locs : List Loc), va_P D vwCl (w_grinder cI cC gh a pA pM pn pt d0_44 w0_44 g0 k0_44 d1_44 w1_44 g1 k1_44 qA qM qn qt uA uM un_44 ut_44 sF_44 sk_44 sm_44 st se_44 fi gr br_44 pu nr_44) H → va_D AA (w_grinder cI cC gh a pA pM pn pt d0_44 w0_44 g0 k0_44 d1_44 w1_44 g1 k1_44 qA qM qn qt uA uM un_44 ut_44 sF_44 sk_44 sm_44 st se_44 fi gr br_44 pu nr_44) → va_S AA s.heap H locs → ∀ ls : Array Slot, lv_has ls 4 [(0, .ref gh), (1, .int y1_44), (2, .int y2_44)] → f_X1_makeShot_J44 uA uM st y1_44 y2_44 z0_44 d0_44 w0_44 k0_44 d1_44 w1_44 k1_44 un_44 ut_44 sF_44 sk_44 sm_44 se_44 br_44 nr_44 = some R → W p l e rmX1_makeShot s m args below meth c H locs 0 0 Q (F0 m 44 ls [.int z0_44]) := by
    intro y1_44 y2_44 z0_44 d0_44 w0_44 k0_44 d1_44 w1_44 k1_44 un_44 ut_44 sF_44 sk_44 sm_44 se_44 br_44 nr_44 H locs hP hD hS ls hl hf
    rw [f_X1_makeShot_J44] at hf
    refine lv_istore_n (lv' := [(3, .int z0_44), (0, .ref gh), (1, .int y1_44), (2, .int y2_44)]) hx hb dX1_makeShot_44 rfl hl (by decide) rfl (fun ls hl => ?_)
    refine lv_aload_n hx hb dX1_makeShot_45 rfl (lv_at hl 1 rfl) ?_
    refine va_get hx hb hts n1_ hown hK hP 0 rfl rfl 5 (Nat.le_of_ble_eq_true rfl) k2_ (fun _ h => h) rfl dX1_makeShot_46 ?_
    refine lv_iload_n hx hb dX1_makeShot_49 rfl (lv_at hl 2 rfl) ?_
    refine lv_aload_n hx hb dX1_makeShot_50 rfl (lv_at hl 1 rfl) ?_
    refine va_get hx hb hts n1_ hown hK hP 0 rfl rfl 4 (Nat.le_of_ble_eq_true rfl) k1_ (fun _ h => h) rfl dX1_makeShot_51 ?_
    refine va_getN hx hb hts n5_ hown hK hP 10 rfl rfl 3 (Nat.le_of_ble_eq_true rfl) (hN.get 3 rfl) (fun _ h => h) rfl dX1_makeShot_54 ?_
    refine lv_iload_n hx hb dX1_makeShot_57 rfl (lv_at hl 3 rfl) ?_
    refine lv_iload_n hx hb dX1_makeShot_58 rfl (lv_at hl 0 rfl) ?_
    refine lv_aload_n hx hb dX1_makeShot_59 rfl (lv_at hl 1 rfl) ?_
    refine va_get hx hb hts n1_ hown hK hP 0 rfl rfl 7 (Nat.le_of_ble_eq_true rfl) k3_ (fun _ h => h) rfl dX1_makeShot_60 ?_
    refine lv_aload_n hx hb dX1_makeShot_63 rfl (lv_at hl 1 rfl) ?_
    refine va_get hx hb hts n1_ hown hK hP 0 rfl rfl 4 (Nat.le_of_ble_eq_true rfl) k1_ (fun _ h => h) rfl dX1_makeShot_64 ?_
    refine va_getN hx hb hts n5_ hown hK hP 10 rfl rfl 2 (Nat.le_of_ble_eq_true rfl) (hN.get 1 rfl) (fun _ h => h) rfl dX1_makeShot_67 ?_
    obtain ⟨q7, hq7, hf⟩ := ob hf
    refine cl_VV (W1 := (w_grinder cI cC gh a pA pM pn pt d0_44 w0_44 g0 k0_44 d1_44 w1_44 g1 k1_44 qA qM qn qt uA uM un_44 ut_44 q7.1 q7.2.1 q7.2.2 st se_44 fi gr br_44 pu nr_44)) (As := [.int y1_44, .int ut_44, .int y2_44, .int z0_44, .int se_44, .int un_44]) (rest := []) hF hP hD hS (c_X6_add (a 13) (a 14) y1_44 ut_44 y2_44 z0_44 se_44 un_44 sF_44 sk_44 sm_44 q7 hq7) (cwV 6 hts gX1_makeShot_X6_add rfl rfl rfl (by decide +kernel) ⟨(Nat.le_of_ble_eq_true rfl), (Nat.le_of_ble_eq_true rfl)⟩) [13, 14] rfl (by decide +kernel) (va_recv hK hP (ci := 6) (q0 := 13) rfl rfl) rfl rfl hl.1 (Nat.le_of_ble_eq_true rfl) dX1_makeShot_70 ⟨Nat.zero_le _, Nat.zero_le _⟩ (hA2 [(a 13), (a 14)] rfl rfl) [0, 1, 2, 3, 4, 5, 6, 7, 8, 9, 10, 11, 12, 15] rfl [(gh, .inr (1, [.ref (a 1), .ref (a 5), .ref (a 6), .ref (a 7), .ref (a 10), .ref (a 13), .ref (a 15), .int se_44, .int fi, .int gr, .int br_44, .int pu, .int nr_44])), ((a 1), .inr (3, [.ref (a 2)])), ((a 2), .inr (5, [.ref (a 3), .ref (a 4), .int pn, .int pt])), ((a 3), .inl (cI, 6, .inl pA)), ((a 4), .inl (cI, 6, .inl pM)), ((a 5), .inr (0, [.int d0_44, .int w0_44, .int g0, .int k0_44])), ((a 6), .inr (0, [.int d1_44, .int w1_44, .int g1, .int k1_44])), ((a 7), .inr (5, [.ref (a 8), .ref (a 9), .int qn, .int qt])), ((a 8), .inl (cI, 106, .inl qA)), ((a 9), .inl (cI, 106, .inl qM)), ((a 10), .inr (5, [.ref (a 11), .ref (a 12), .int un_44, .int ut_44])), ((a 11), .inl (cI, 400, .inl uA)), ((a 12), .inl (cI, 400, .inl uM)), ((a 15), .inl (cI, 6, .inl st))] rfl rfl (nW := 16) rfl (by decide +kernel) (fun H locs hP hD hS => ?_)
    refine lv_aload_n hx hb dX1_makeShot_73 rfl (lv_at hl 1 rfl) ?_
    refine lv_dup hx hb dX1_makeShot_74 rfl ?_
    refine va_get hx hb hts n1_ hown hK hP 0 rfl rfl 10 (Nat.le_of_ble_eq_true rfl) k4_ (fun _ h => h) rfl dX1_makeShot_75 ?_
    refine lv_aload_n hx hb dX1_makeShot_78 rfl (lv_at hl 1 rfl) ?_
    refine va_get hx hb hts n1_ hown hK hP 0 rfl rfl 4 (Nat.le_of_ble_eq_true rfl) k1_ (fun _ h => h) rfl dX1_makeShot_79 ?_
    refine va_getN hx hb hts n5_ hown hK hP 10 rfl rfl 3 (Nat.le_of_ble_eq_true rfl) (hN.get 3 rfl) (fun _ h => h) rfl dX1_makeShot_82 ?_
    refine lv_iadd hx hb dX1_makeShot_85 ?_
    refine lv_topi (fun v8 ev8 => ?_)
    replace hf := lt_e ev8 hf
    refine va_put hx hb hts n1_ tyX1 tyX1_ok nmX1 hown hK hP hD hS 0 rfl rfl 10 (Nat.le_of_ble_eq_true rfl) k4_ (fun _ h => h) rfl (v := .int v8) (tyX1_ok 10 (Nat.le_of_ble_eq_true rfl)) rfl rfl (Nat.le_of_ble_eq_true rfl) dX1_makeShot_86 (fun H locs hP hD hS => ?_)
    have hP : va_P D vwCl (w_grinder cI cC gh a pA pM pn pt d0_44 w0_44 g0 k0_44 d1_44 w1_44 g1 k1_44 qA qM qn qt uA uM un_44 ut_44 q7.1 q7.2.1 q7.2.2 st se_44 fi gr v8 pu nr_44) H := hP
    have hD : va_D AA (w_grinder cI cC gh a pA pM pn pt d0_44 w0_44 g0 k0_44 d1_44 w1_44 g1 k1_44 qA qM qn qt uA uM un_44 ut_44 q7.1 q7.2.1 q7.2.2 st se_44 fi gr v8 pu nr_44) := hD
    refine lv_aload_n hx hb dX1_makeShot_89 rfl (lv_at hl 1 rfl) ?_
    refine va_get hx hb hts n1_ hown hK hP 0 rfl rfl 4 (Nat.le_of_ble_eq_true rfl) k1_ (fun _ h => h) rfl dX1_makeShot_90 ?_
    obtain ⟨q9, hq9, hf⟩ := ob hf
    refine cl_VV (W1 := (w_grinder cI cC gh a pA pM pn pt d0_44 w0_44 g0 k0_44 d1_44 w1_44 g1 k1_44 qA qM qn qt uA uM q9.1 q9.2 q7.1 q7.2.1 q7.2.2 st se_44 fi gr v8 pu nr_44)) (As := []) (rest := []) hF hP hD hS (c_X5_clear (a 10) (a 11) (a 12) 400 uA uM un_44 ut_44 q9 hq9) (cwV 0 hts gX1_makeShot_X5_clear rfl rfl rfl (by decide +kernel) ⟨(Nat.le_of_ble_eq_true rfl), (Nat.le_of_ble_eq_true rfl)⟩) [10, 11, 12] rfl (by decide +kernel) (va_recv hK hP (ci := 5) (q0 := 10) rfl rfl) rfl rfl hl.1 (Nat.le_of_ble_eq_true rfl) dX1_makeShot_93 ⟨Nat.zero_le _, Nat.zero_le _⟩ (hA2 [(a 10), (a 11), (a 12)] rfl rfl) [0, 1, 2, 3, 4, 5, 6, 7, 8, 9, 13, 14, 15] rfl [(gh, .inr (1, [.ref (a 1), .ref (a 5), .ref (a 6), .ref (a 7), .ref (a 10), .ref (a 13), .ref (a 15), .int se_44, .int fi, .int gr, .int v8, .int pu, .int nr_44])), ((a 1), .inr (3, [.ref (a 2)])), ((a 2), .inr (5, [.ref (a 3), .ref (a 4), .int pn, .int pt])), ((a 3), .inl (cI, 6, .inl pA)), ((a 4), .inl (cI, 6, .inl pM)), ((a 5), .inr (0, [.int d0_44, .int w0_44, .int g0, .int k0_44])), ((a 6), .inr (0, [.int d1_44, .int w1_44, .int g1, .int k1_44])), ((a 7), .inr (5, [.ref (a 8), .ref (a 9), .int qn, .int qt])), ((a 8), .inl (cI, 106, .inl qA)), ((a 9), .inl (cI, 106, .inl qM)), ((a 13), .inr (6, [.ref (a 14), .int q7.2.1, .int q7.2.2])), ((a 14), .inl (cI, 96, .inl q7.1)), ((a 15), .inl (cI, 6, .inl st))] rfl rfl (nW := 16) rfl (by decide +kernel) (fun H locs hP hD hS => ?_)
    refine lv_aload_n hx hb dX1_makeShot_96 rfl (lv_at hl 1 rfl) ?_
    refine lv_iload_n hx hb dX1_makeShot_97 rfl (lv_at hl 2 rfl) ?_
    refine lv_aload_n hx hb dX1_makeShot_98 rfl (lv_at hl 1 rfl) ?_
    refine lv_iload_n hx hb dX1_makeShot_99 rfl (lv_at hl 3 rfl) ?_
    by_cases hc10 : y2_44 = 0
    · replace hf := it hc10 hf
      refine cl_AV (As := [.int y2_44]) (rest := [.int y1_44, .ref gh]) hF hP hD (c_X1_burrNumbered_0 gh a y2_44 pA pM pn pt d0_44 w0_44 g0 k0_44 d1_44 w1_44 g1 k1_44 qA qM qn qt uA uM q9.1 q9.2 q7.1 q7.2.1 q7.2.2 st se_44 fi gr v8 pu nr_44 hc10) (cwV 1 hts gX1_makeShot_X1_burrNumbered rfl rfl rfl (by decide +kernel) ⟨(Nat.le_of_ble_eq_true rfl), (Nat.le_of_ble_eq_true rfl)⟩) [0, 1, 2, 3, 4, 5, 6, 7, 8, 9, 10, 11, 12, 13, 14, 15] rfl (by decide +kernel) (va_recv hK hP (ci := 1) (q0 := 0) rfl rfl) rfl rfl hl.1 (Nat.le_of_ble_eq_true rfl) dX1_makeShot_100 ⟨Nat.zero_le _, Nat.zero_le _⟩ ?_
      obtain ⟨q11, hq11, hf⟩ := ob hf
      refine cl_VV (W1 := (w_grinder cI cC gh a pA pM pn pt q11.1 w0_44 g0 q11.2.1 d1_44 w1_44 g1 k1_44 qA qM qn qt uA uM q9.1 q9.2 q7.1 q7.2.1 q7.2.2 st se_44 fi gr v8 pu q11.2.2)) (As := [.int y1_44, .ref (a 5)]) (rest := []) hF hP hD hS (c_X1_judge_0 gh a y1_44 pA pM pn pt d0_44 w0_44 g0 k0_44 d1_44 w1_44 g1 k1_44 qA qM qn qt uA uM q9.1 q9.2 q7.1 q7.2.1 q7.2.2 st se_44 fi gr v8 pu nr_44 q11 hq11) (cwV 2 hts gX1_makeShot_X1_judge rfl rfl rfl (by decide +kernel) ⟨(Nat.le_of_ble_eq_true rfl), (Nat.le_of_ble_eq_true rfl)⟩) [0, 1, 2, 3, 4, 5, 6, 7, 8, 9, 10, 11, 12, 13, 14, 15] rfl (by decide +kernel) (va_recv hK hP (ci := 1) (q0 := 0) rfl rfl) rfl rfl hl.1 (Nat.le_of_ble_eq_true rfl) dX1_makeShot_103 ⟨Nat.zero_le _, Nat.zero_le _⟩ (hA2 [gh, (a 1), (a 2), (a 3), (a 4), (a 5), (a 6), (a 7), (a 8), (a 9), (a 10), (a 11), (a 12), (a 13), (a 14), (a 15)] rfl rfl) [] rfl [] rfl rfl (nW := 16) rfl (by decide +kernel) (fun H locs hP hD hS => ?_)
      refine lv_aload_n hx hb dX1_makeShot_106 rfl (lv_at hl 1 rfl) ?_
      refine lv_iload_n hx hb dX1_makeShot_107 rfl (lv_at hl 2 rfl) ?_
      refine lv_bipush (v := (10 : Int32)) hx hb dX1_makeShot_108 (by decide) ?_
      refine lv_idiv hx hb dX1_makeShot_110 (by decide) ?_
      obtain ⟨q12, hq12, hf⟩ := ob hf
      refine cl_VV (W1 := (w_grinder cI cC gh a pA pM pn pt q11.1 q12.1 g0 q11.2.1 d1_44 q12.2.1 g1 k1_44 qA qM qn qt uA uM q9.1 q9.2 q7.1 q7.2.1 q7.2.2 st q12.2.2 fi gr v8 pu q11.2.2)) (As := [.int (y1_44 / (10 : Int32))]) (rest := []) hF hP hD hS (c_X1_passSeconds gh a (y1_44 / (10 : Int32)) pA pM pn pt q11.1 w0_44 g0 q11.2.1 d1_44 w1_44 g1 k1_44 qA qM qn qt uA uM q9.1 q9.2 q7.1 q7.2.1 q7.2.2 st se_44 fi gr v8 pu q11.2.2 q12 hq12) (cwV 1 hts gX1_makeShot_X1_passSeconds rfl rfl rfl (by decide +kernel) ⟨(Nat.le_of_ble_eq_true rfl), (Nat.le_of_ble_eq_true rfl)⟩) [0, 1, 2, 3, 4, 5, 6, 7, 8, 9, 10, 11, 12, 13, 14, 15] rfl (by decide +kernel) (va_recv hK hP (ci := 1) (q0 := 0) rfl rfl) rfl rfl hl.1 (Nat.le_of_ble_eq_true rfl) dX1_makeShot_111 ⟨Nat.zero_le _, Nat.zero_le _⟩ (hA2 [gh, (a 1), (a 2), (a 3), (a 4), (a 5), (a 6), (a 7), (a 8), (a 9), (a 10), (a 11), (a 12), (a 13), (a 14), (a 15)] rfl rfl) [] rfl [] rfl rfl (nW := 16) rfl (by decide +kernel) (fun H locs hP hD hS => ?_)
      refine lv_iload_n hx hb dX1_makeShot_114 rfl (lv_at hl 2 rfl) ?_
      obtain rfl := Option.some.inj hf
      exact ret 115 ls _ H locs dX1_makeShot_115 rfl rfl hP hS
    · replace hf := ie hc10 hf
      refine cl_AV (As := [.int y2_44]) (rest := [.int y1_44, .ref gh]) hF hP hD (c_X1_burrNumbered_1 gh a y2_44 pA pM pn pt d0_44 w0_44 g0 k0_44 d1_44 w1_44 g1 k1_44 qA qM qn qt uA uM q9.1 q9.2 q7.1 q7.2.1 q7.2.2 st se_44 fi gr v8 pu nr_44 hc10) (cwV 1 hts gX1_makeShot_X1_burrNumbered rfl rfl rfl (by decide +kernel) ⟨(Nat.le_of_ble_eq_true rfl), (Nat.le_of_ble_eq_true rfl)⟩) [0, 1, 2, 3, 4, 5, 6, 7, 8, 9, 10, 11, 12, 13, 14, 15] rfl (by decide +kernel) (va_recv hK hP (ci := 1) (q0 := 0) rfl rfl) rfl rfl hl.1 (Nat.le_of_ble_eq_true rfl) dX1_makeShot_100 ⟨Nat.zero_le _, Nat.zero_le _⟩ ?_
      obtain ⟨q13, hq13, hf⟩ := ob hf
      refine cl_VV (W1 := (w_grinder cI cC gh a pA pM pn pt d0_44 w0_44 g0 k0_44 q13.1 w1_44 g1 q13.2.1 qA qM qn qt uA uM q9.1 q9.2 q7.1 q7.2.1 q7.2.2 st se_44 fi gr v8 pu q13.2.2)) (As := [.int y1_44, .ref (a 6)]) (rest := []) hF hP hD hS (c_X1_judge_1 gh a y1_44 pA pM pn pt d0_44 w0_44 g0 k0_44 d1_44 w1_44 g1 k1_44 qA qM qn qt uA uM q9.1 q9.2 q7.1 q7.2.1 q7.2.2 st se_44 fi gr v8 pu nr_44 q13 hq13) (cwV 2 hts gX1_makeShot_X1_judge rfl rfl rfl (by decide +kernel) ⟨(Nat.le_of_ble_eq_true rfl), (Nat.le_of_ble_eq_true rfl)⟩) [0, 1, 2, 3, 4, 5, 6, 7, 8, 9, 10, 11, 12, 13, 14, 15] rfl (by decide +kernel) (va_recv hK hP (ci := 1) (q0 := 0) rfl rfl) rfl rfl hl.1 (Nat.le_of_ble_eq_true rfl) dX1_makeShot_103 ⟨Nat.zero_le _, Nat.zero_le _⟩ (hA2 [gh, (a 1), (a 2), (a 3), (a 4), (a 5), (a 6), (a 7), (a 8), (a 9), (a 10), (a 11), (a 12), (a 13), (a 14), (a 15)] rfl rfl) [] rfl [] rfl rfl (nW := 16) rfl (by decide +kernel) (fun H locs hP hD hS => ?_)
      refine lv_aload_n hx hb dX1_makeShot_106 rfl (lv_at hl 1 rfl) ?_
      refine lv_iload_n hx hb dX1_makeShot_107 rfl (lv_at hl 2 rfl) ?_
      refine lv_bipush (v := (10 : Int32)) hx hb dX1_makeShot_108 (by decide) ?_
      refine lv_idiv hx hb dX1_makeShot_110 (by decide) ?_
      obtain ⟨q14, hq14, hf⟩ := ob hf
      refine cl_VV (W1 := (w_grinder cI cC gh a pA pM pn pt d0_44 q14.1 g0 k0_44 q13.1 q14.2.1 g1 q13.2.1 qA qM qn qt uA uM q9.1 q9.2 q7.1 q7.2.1 q7.2.2 st q14.2.2 fi gr v8 pu q13.2.2)) (As := [.int (y1_44 / (10 : Int32))]) (rest := []) hF hP hD hS (c_X1_passSeconds gh a (y1_44 / (10 : Int32)) pA pM pn pt d0_44 w0_44 g0 k0_44 q13.1 w1_44 g1 q13.2.1 qA qM qn qt uA uM q9.1 q9.2 q7.1 q7.2.1 q7.2.2 st se_44 fi gr v8 pu q13.2.2 q14 hq14) (cwV 1 hts gX1_makeShot_X1_passSeconds rfl rfl rfl (by decide +kernel) ⟨(Nat.le_of_ble_eq_true rfl), (Nat.le_of_ble_eq_true rfl)⟩) [0, 1, 2, 3, 4, 5, 6, 7, 8, 9, 10, 11, 12, 13, 14, 15] rfl (by decide +kernel) (va_recv hK hP (ci := 1) (q0 := 0) rfl rfl) rfl rfl hl.1 (Nat.le_of_ble_eq_true rfl) dX1_makeShot_111 ⟨Nat.zero_le _, Nat.zero_le _⟩ (hA2 [gh, (a 1), (a 2), (a 3), (a 4), (a 5), (a 6), (a 7), (a 8), (a 9), (a 10), (a 11), (a 12), (a 13), (a 14), (a 15)] rfl rfl) [] rfl [] rfl rfl (nW := 16) rfl (by decide +kernel) (fun H locs hP hD hS => ?_)
      refine lv_iload_n hx hb dX1_makeShot_114 rfl (lv_at hl 2 rfl) ?_
      obtain rfl := Option.some.inj hf
      exact ret 115 ls _ H locs dX1_makeShot_115 rfl rfl hP hS
  have J27 : ∀ (y1_27 : Int32) (z0_27 : Int32) (d0_27 : Int32) (w0_27 : Int32) (k0_27 : Int32) (d1_27 : Int32) (w1_27 : Int32) (k1_27 : Int32) (un_27 : Int32) (ut_27 : Int32) (sF_27 : Nat → Int32) (sk_27 : Int32) (sm_27 : Int32) (se_27 : Int32) (br_27 : Int32) (nr_27 : Int32) (H : Heap) (locs : List Loc), va_P D vwCl (w_grinder cI cC gh a pA pM pn pt d0_27 w0_27 g0 k0_27 d1_27 w1_27 g1 k1_27 qA qM qn qt uA uM un_27 ut_27 sF_27 sk_27 sm_27 st se_27 fi gr br_27 pu nr_27) H → va_D AA (w_grinder cI cC gh a pA pM pn pt d0_27 w0_27 g0 k0_27 d1_27 w1_27 g1 k1_27 qA qM qn qt uA uM un_27 ut_27 sF_27 sk_27 sm_27 st se_27 fi gr br_27 pu nr_27) → va_S AA s.heap H locs → ∀ ls : Array Slot, lv_has ls 4 [(0, .ref gh), (1, .int y1_27)] → f_X1_makeShot_J27 uA uM st y1_27 z0_27 d0_27 w0_27 k0_27 d1_27 w1_27 k1_27 un_27 ut_27 sF_27 sk_27 sm_27 se_27 br_27 nr_27 = some R → W p l e rmX1_makeShot s m args below meth c H locs 0 0 Q (F0 m 27 ls [.int z0_27]) := by
    intro y1_27 z0_27 d0_27 w0_27 k0_27 d1_27 w1_27 k1_27 un_27 ut_27 sF_27 sk_27 sm_27 se_27 br_27 nr_27 H locs hP hD hS ls hl hf
    rw [f_X1_makeShot_J27] at hf
    refine lv_istore_n (lv' := [(2, .int z0_27), (0, .ref gh), (1, .int y1_27)]) hx hb dX1_makeShot_27 rfl hl (by decide) rfl (fun ls hl => ?_)
    refine lv_aload_n hx hb dX1_makeShot_28 rfl (lv_at hl 1 rfl) ?_
    refine va_get hx hb hts n1_ hown hK hP 0 rfl rfl 4 (Nat.le_of_ble_eq_true rfl) k1_ (fun _ h => h) rfl dX1_makeShot_29 ?_
    refine lv_iconst (v := (1 : Int32)) hx hb dX1_makeShot_32 (by decide) ?_
    obtain ⟨q5, hq5, hf⟩ := ob hf
    refine cl_RV (As := [.int (1 : Int32)]) (rest := []) hF hP hD (c_X5_isMostly (a 10) (a 11) (a 12) 400 (1 : Int32) uA uM un_27 ut_27 q5 hq5) (cwV 1 hts gX1_makeShot_X5_isMostly rfl rfl rfl (by decide +kernel) ⟨(Nat.le_of_ble_eq_true rfl), (Nat.le_of_ble_eq_true rfl)⟩) [10, 11, 12] rfl (by decide +kernel) (va_recv hK hP (ci := 5) (q0 := 10) rfl rfl) rfl rfl hl.1 (Nat.le_of_ble_eq_true rfl) dX1_makeShot_33 ⟨Nat.zero_le _, Nat.zero_le _⟩ ?_
    refine lv_if_eq (tgt := 43) hx hb dX1_makeShot_36 (by decide) (fun hc6 => ?_) (fun hc6 => ?_)
    · replace hf := it hc6 hf
      refine lv_iconst (v := (0 : Int32)) hx hb dX1_makeShot_43 (by decide) ?_
      exact J44 y1_27 z0_27 (0 : Int32) d0_27 w0_27 k0_27 d1_27 w1_27 k1_27 un_27 ut_27 sF_27 sk_27 sm_27 se_27 br_27 nr_27 H locs hP hD hS ls (lv_sub hl [1, 2, 0] rfl) hf
    · replace hf := ie hc6 hf
      refine lv_iconst (v := (1 : Int32)) hx hb dX1_makeShot_39 (by decide) ?_
      refine lv_goto (tgt := 44) hx hb dX1_makeShot_40 (by decide) ?_
      exact J44 y1_27 z0_27 (1 : Int32) d0_27 w0_27 k0_27 d1_27 w1_27 k1_27 un_27 ut_27 sF_27 sk_27 sm_27 se_27 br_27 nr_27 H locs hP hD hS ls (lv_sub hl [1, 2, 0] rfl) hf
  rw [f_X1_makeShot] at hf
  obtain ⟨H, hH⟩ : ∃ z : Heap, z = s.heap := ⟨_, rfl⟩
  obtain ⟨locs, hL⟩ : ∃ z : List Loc, z = [] := ⟨_, rfl⟩
  replace hP := hH ▸ hP
  replace hS : va_S AA s.heap H locs := by rw [hH, hL]; exact hS
  suffices hgoal : W p l e rmX1_makeShot s m args below meth c H locs 0 0 Q (F0 m 0 ls []) by rw [hH, hL] at hgoal; exact hgoal
  clear hH hL
  refine lv_aload_n hx hb dX1_makeShot_0 rfl (lv_at hl 0 rfl) ?_
  obtain ⟨q1, hq1, hf⟩ := ob hf
  refine cl_RV (As := []) (rest := []) hF hP hD (c_X1_timeOfBasket gh a pA pM pn pt d0 w0 g0 k0 d1 w1 g1 k1 qA qM qn qt uA uM un ut sF sk sm st se fi gr br pu nr q1 hq1) (cwV 0 hts gX1_makeShot_X1_timeOfBasket rfl rfl rfl (by decide +kernel) ⟨(Nat.le_of_ble_eq_true rfl), (Nat.le_of_ble_eq_true rfl)⟩) [0, 1, 2, 3, 4, 5, 6, 7, 8, 9, 10, 11, 12, 13, 14, 15] rfl (by decide +kernel) (va_recv hK hP (ci := 1) (q0 := 0) rfl rfl) rfl rfl hl.1 (Nat.le_of_ble_eq_true rfl) dX1_makeShot_1 ⟨Nat.zero_le _, Nat.zero_le _⟩ ?_
  refine lv_istore_n (lv' := [(1, .int q1), (0, .ref gh)]) hx hb dX1_makeShot_4 rfl hl (by decide) rfl (fun ls hl => ?_)
  refine lv_iload_n hx hb dX1_makeShot_5 rfl (lv_at hl 0 rfl) ?_
  refine lv_if_ge (tgt := 11) hx hb dX1_makeShot_6 (by decide) (fun hc2 => ?_) (fun hc2 => ?_)
  · replace hf := it hc2 hf
    refine lv_aload_n hx hb dX1_makeShot_11 rfl (lv_at hl 1 rfl) ?_
    refine va_get hx hb hts n1_ hown hK hP 0 rfl rfl 4 (Nat.le_of_ble_eq_true rfl) k1_ (fun _ h => h) rfl dX1_makeShot_12 ?_
    refine lv_iconst (v := (2 : Int32)) hx hb dX1_makeShot_15 (by decide) ?_
    obtain ⟨q3, hq3, hf⟩ := ob hf
    refine cl_RV (As := [.int (2 : Int32)]) (rest := []) hF hP hD (c_X5_isMostly (a 10) (a 11) (a 12) 400 (2 : Int32) uA uM un ut q3 hq3) (cwV 1 hts gX1_makeShot_X5_isMostly rfl rfl rfl (by decide +kernel) ⟨(Nat.le_of_ble_eq_true rfl), (Nat.le_of_ble_eq_true rfl)⟩) [10, 11, 12] rfl (by decide +kernel) (va_recv hK hP (ci := 5) (q0 := 10) rfl rfl) rfl rfl hl.1 (Nat.le_of_ble_eq_true rfl) dX1_makeShot_16 ⟨Nat.zero_le _, Nat.zero_le _⟩ ?_
    refine lv_if_eq (tgt := 26) hx hb dX1_makeShot_19 (by decide) (fun hc4 => ?_) (fun hc4 => ?_)
    · replace hf := it hc4 hf
      refine lv_iconst (v := (0 : Int32)) hx hb dX1_makeShot_26 (by decide) ?_
      exact J27 q1 (0 : Int32) d0 w0 k0 d1 w1 k1 un ut sF sk sm se br nr H locs hP hD hS ls (lv_sub hl [1, 0] rfl) hf
    · replace hf := ie hc4 hf
      refine lv_iconst (v := (1 : Int32)) hx hb dX1_makeShot_22 (by decide) ?_
      refine lv_goto (tgt := 27) hx hb dX1_makeShot_23 (by decide) ?_
      exact J27 q1 (1 : Int32) d0 w0 k0 d1 w1 k1 un ut sF sk sm se br nr H locs hP hD hS ls (lv_sub hl [1, 0] rfl) hf
  · replace hf := ie hc2 hf
    refine lv_iload_n hx hb dX1_makeShot_9 rfl (lv_at hl 0 rfl) ?_
    obtain rfl := Option.some.inj hf
    exact ret 10 ls _ H locs dX1_makeShot_10 rfl rfl hP hS
end
