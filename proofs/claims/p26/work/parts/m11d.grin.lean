section
variable {l : Launch} {D : va_G} {cI cC : ClassId}

abbrev rmX1_grindBy : Room := { frames := 4, cells := 0, slots := 0, locals := 132 }
set_option maxHeartbeats 4000000 in
set_option maxRecDepth 100000 in
theorem c_X1_grindBy (gh : Nat) (a : Nat → Nat) (x1 : Int32) (x2 : Int32) (pA : Nat → Int32) (pM : Nat → Int32) (pn : Int32) (pt : Int32) (d0 : Int32) (w0 : Int32) (g0 : Int32) (k0 : Int32) (d1 : Int32) (w1 : Int32) (g1 : Int32) (k1 : Int32) (qA : Nat → Int32) (qM : Nat → Int32) (qn : Int32) (qt : Int32) (uA : Nat → Int32) (uM : Nat → Int32) (un : Int32) (ut : Int32) (sF : Nat → Int32) (sk : Int32) (sm : Int32) (st : Nat → Int32) (se : Int32) (fi : Int32) (gr : Int32) (br : Int32) (pu : Int32) (nr : Int32) (R : Int32 × (Nat → Int32) × (Nat → Int32) × Int32 × Int32 × Int32 × Int32 × Int32 × Int32 × (Nat → Int32) × (Nat → Int32) × Int32 × Int32 × (Nat → Int32) × (Nat → Int32) × Int32 × Int32 × Int32 × Int32) (hf : f_X1_grindBy x1 x2 pA pM pn pt d0 w0 g0 d1 w1 g1 qA qM qn qt uA uM un ut st se gr = some R) : WrI l yX1_grindBy wsX1_grindBy rmX1_grindBy D cI cC (w_grinder cI cC gh a pA pM pn pt d0 w0 g0 k0 d1 w1 g1 k1 qA qM qn qt uA uM un ut sF sk sm st se fi gr br pu nr) (w_grinder cI cC gh a R.2.1 R.2.2.1 R.2.2.2.1 R.2.2.2.2.1 d0 R.2.2.2.2.2.1 R.2.2.2.2.2.2.1 k0 d1 R.2.2.2.2.2.2.2.1 R.2.2.2.2.2.2.2.2.1 k1 R.2.2.2.2.2.2.2.2.2.1 R.2.2.2.2.2.2.2.2.2.2.1 R.2.2.2.2.2.2.2.2.2.2.2.1 R.2.2.2.2.2.2.2.2.2.2.2.2.1 R.2.2.2.2.2.2.2.2.2.2.2.2.2.1 R.2.2.2.2.2.2.2.2.2.2.2.2.2.2.1 R.2.2.2.2.2.2.2.2.2.2.2.2.2.2.2.1 R.2.2.2.2.2.2.2.2.2.2.2.2.2.2.2.2.1 sF sk sm st R.2.2.2.2.2.2.2.2.2.2.2.2.2.2.2.2.2.1 fi R.2.2.2.2.2.2.2.2.2.2.2.2.2.2.2.2.2.2 br pu nr) [.ref gh, .int x1, .int x2] R.1 := by
  refine en_W (cc := cX1_grindBy) (n := 5) (by decide) rfl (Nat.le_of_ble_eq_true rfl) ?_
  intro p e s m args below meth c Q AA ls hx hb hml hown hts hK hN hP hD hS hl ret
  have hown : s.vm.findClass RX1 = some m.cls := hown
  have hF : FX p m c cX1_grindBy 5 s args wsX1_grindBy RX1 D cI cC := ⟨⟨hx, hb, hml, hown, hts⟩, hK, hN⟩
  have hl : lv_has ls 5 [(0, .ref gh), (1, .int x1), (2, .int x2)] := hl
  have k10_ := hts (.fieldLink RX1 37 "DriftGrinders$Grinder" "basket" "LDriftGrinders$Row;") (List.mem_of_getElem? (i := 10) rfl)
  have k11_ := hts (.constant RX1 98 (-1000003)) (List.mem_of_getElem? (i := 11) rfl)
  have k12_ := hts (.fieldLink RX1 77 "DriftGrinders$Grinder" "ground" "I") (List.mem_of_getElem? (i := 12) rfl)
  have k13_ := hts (.static yX7_isZeroOrOne) (List.mem_of_getElem? (i := 13) rfl)
  have k14_ := hts (.initialized RX7) (List.mem_of_getElem? (i := 14) rfl)
  have k1_ := hts (.constant RX1 93 (-1000001)) (List.mem_of_getElem? (i := 1) rfl)
  have k2_ := hts (.fieldLink RX1 12 "DriftGrinders$Grinder" "hopper" "LDriftGrinders$Hopper;") (List.mem_of_getElem? (i := 2) rfl)
  have k3_ := hts (.constant RX1 107 (-1000002)) (List.mem_of_getElem? (i := 3) rfl)
  have k4_ := hts (.fieldLink RX1 33 "DriftGrinders$Grinder" "chute" "LDriftGrinders$Row;") (List.mem_of_getElem? (i := 4) rfl)
  have k5_ := hts (.fieldLink RX1 47 "DriftGrinders$Grinder" "settings" "[I") (List.mem_of_getElem? (i := 5) rfl)
  have k6_ := hts (.methodLink RX1 111 Lib.Math.max.name) (List.mem_of_getElem? (i := 6) rfl)
  have k7_ := hts (.static Lib.Math.max.name) (List.mem_of_getElem? (i := 7) rfl)
  have k8_ := hts (.initialized "java/lang/Math") (List.mem_of_getElem? (i := 8) rfl)
  have k9_ := hts (.code Lib.Math.max.name Lib.Math.max.code 2 (some .int)) (List.mem_of_getElem? (i := 9) rfl)
  have n1_ : ∀ w ∈ wsX10, w ∈ wsX1_grindBy := fun _ h => List.mem_cons_of_mem _ (List.mem_append_left _ (List.mem_append_left _ (List.mem_append_left _ (List.mem_append_right _ h))))
  have n5_ : ∀ w ∈ wsX50, w ∈ wsX1_grindBy := fun _ h => List.mem_cons_of_mem _ (List.mem_append_left _ (List.mem_append_left _ (List.mem_append_right _ h)))
  rw [f_X1_grindBy] at hf
  obtain ⟨H, hH⟩ : ∃ z : Heap, z = s.heap := ⟨_, rfl⟩
  obtain ⟨locs, hL⟩ : ∃ z : List Loc, z = [] := ⟨_, rfl⟩
  replace hP := hH ▸ hP
  replace hS : va_S AA s.heap H locs := by rw [hH, hL]; exact hS
  suffices hgoal : W p l e rmX1_grindBy s m args below meth c H locs 0 0 Q (F0 m 0 ls []) by rw [hH, hL] at hgoal; exact hgoal
  clear hH hL
  refine lv_iload_n hx hb dX1_grindBy_0 rfl (lv_at hl 1 rfl) ?_
  obtain ⟨q1, hq1, hf⟩ := ob hf
  refine cl_RN (As := [.int x1]) (rest := []) hF hP hD (c_X7_isZeroOrOne x1 q1 hq1) ⟨va_cnB 1 hts gX1_grindBy_X7_isZeroOrOne_n89 rfl rfl rfl (hN.nw 29 rfl) k14_ (by decide +kernel) ⟨(Nat.le_of_ble_eq_true rfl), (Nat.le_of_ble_eq_true rfl)⟩, k13_, trivial⟩ [] rfl (by decide +kernel) rfl rfl hl.1 (Nat.le_of_ble_eq_true rfl) dX1_grindBy_1 ⟨Nat.zero_le _, Nat.zero_le _⟩ ?_
  refine lv_if_eq (tgt := 19) hx hb dX1_grindBy_4 (by decide) (fun hc2 => ?_) (fun hc2 => ?_)
  · replace hf := it hc2 hf
    refine lv_ldc hx hb hown k1_ dX1_grindBy_19 ?_
    obtain rfl := Option.some.inj hf
    exact ret 21 ls _ H locs dX1_grindBy_21 rfl rfl hP hS
  · replace hf := ie hc2 hf
    refine lv_iload_n hx hb dX1_grindBy_7 rfl (lv_at hl 2 rfl) ?_
    refine lv_iconst (v := (1 : Int32)) hx hb dX1_grindBy_8 (by decide) ?_
    refine lv_icmp_lt (tgt := 19) hx hb dX1_grindBy_9 (by decide) (fun hc3 => ?_) (fun hc3 => ?_)
    · replace hf := it hc3 hf
      refine lv_ldc hx hb hown k1_ dX1_grindBy_19 ?_
      obtain rfl := Option.some.inj hf
      exact ret 21 ls _ H locs dX1_grindBy_21 rfl rfl hP hS
    · replace hf := ie hc3 hf
      refine lv_iload_n hx hb dX1_grindBy_12 rfl (lv_at hl 2 rfl) ?_
      refine lv_sipush (v := (400 : Int32)) hx hb dX1_grindBy_13 (by decide) ?_
      refine lv_icmp_le (tgt := 22) hx hb dX1_grindBy_16 (by decide) (fun hc4 => ?_) (fun hc4 => ?_)
      · replace hf := it hc4 hf
        refine lv_aload_n hx hb dX1_grindBy_22 rfl (lv_at hl 0 rfl) ?_
        refine va_get hx hb hts n1_ hown hK hP 0 rfl rfl 0 (Nat.le_of_ble_eq_true rfl) k2_ (fun _ h => h) rfl dX1_grindBy_23 ?_
        obtain ⟨q5, hq5, hf⟩ := ob hf
        refine cl_RV (As := []) (rest := []) hF hP hD (c_X3_amount (a 1) (a 2) (a 3) (a 4) 6 pA pM pn pt q5 hq5) (cwV 0 hts gX1_grindBy_X3_amount rfl rfl rfl (by decide +kernel) ⟨(Nat.le_of_ble_eq_true rfl), (Nat.le_of_ble_eq_true rfl)⟩) [1, 2, 3, 4] rfl (by decide +kernel) (va_recv hK hP (ci := 3) (q0 := 1) rfl rfl) rfl rfl hl.1 (Nat.le_of_ble_eq_true rfl) dX1_grindBy_26 ⟨Nat.zero_le _, Nat.zero_le _⟩ ?_
        refine lv_iload_n hx hb dX1_grindBy_29 rfl (lv_at hl 2 rfl) ?_
        refine lv_icmp_ge (tgt := 36) hx hb dX1_grindBy_30 (by decide) (fun hc6 => ?_) (fun hc6 => ?_)
        · replace hf := it hc6 hf
          refine lv_iconst (v := (0 : Int32)) hx hb dX1_grindBy_36 (by decide) ?_
          refine lv_aload_n hx hb dX1_grindBy_37 rfl (lv_at hl 0 rfl) ?_
          refine va_get hx hb hts n1_ hown hK hP 0 rfl rfl 3 (Nat.le_of_ble_eq_true rfl) k4_ (fun _ h => h) rfl dX1_grindBy_38 ?_
          refine va_getN hx hb hts n5_ hown hK hP 7 rfl rfl 3 (Nat.le_of_ble_eq_true rfl) (hN.get 3 rfl) (fun _ h => h) rfl dX1_grindBy_41 ?_
          refine lv_iload_n hx hb dX1_grindBy_44 rfl (lv_at hl 2 rfl) ?_
          refine lv_iadd hx hb dX1_grindBy_45 ?_
          refine lv_aload_n hx hb dX1_grindBy_46 rfl (lv_at hl 0 rfl) ?_
          refine va_get hx hb hts n1_ hown hK hP 0 rfl rfl 6 (Nat.le_of_ble_eq_true rfl) k5_ (fun _ h => h) rfl dX1_grindBy_47 ?_
          refine lv_iconst (v := (2 : Int32)) hx hb dX1_grindBy_50 (by decide) ?_
          refine va_iald hx hb hK hP 15 0 rfl rfl (show ¬ ((2 : Int32) < 0 ∨ 6 ≤ (2 : Int32).toNatClampNeg) by decide) dX1_grindBy_51 ?_
          refine lv_isub hx hb dX1_grindBy_52 ?_
          refine va_mmax hx hb (hml.trans hl.1.symm) hown k6_ k7_ k8_ k9_ (Nat.le_of_ble_eq_true rfl) (Nat.le_of_ble_eq_true rfl) (Nat.zero_le _) (Nat.zero_le _) dX1_grindBy_53 ?_
          refine lv_topi (fun v7 ev7 => ?_)
          replace hf := lt_e ev7 hf
          refine lv_istore_n (lv' := [(3, .int v7), (0, .ref gh), (1, .int x1), (2, .int x2)]) hx hb dX1_grindBy_56 rfl hl (by decide) rfl (fun ls hl => ?_)
          refine lv_aload_n hx hb dX1_grindBy_57 rfl (lv_at hl 1 rfl) ?_
          refine va_get hx hb hts n1_ hown hK hP 0 rfl rfl 4 (Nat.le_of_ble_eq_true rfl) k10_ (fun _ h => h) rfl dX1_grindBy_58 ?_
          refine va_getN hx hb hts n5_ hown hK hP 10 rfl rfl 3 (Nat.le_of_ble_eq_true rfl) (hN.get 3 rfl) (fun _ h => h) rfl dX1_grindBy_61 ?_
          refine lv_iload_n hx hb dX1_grindBy_64 rfl (lv_at hl 0 rfl) ?_
          refine lv_iadd hx hb dX1_grindBy_65 ?_
          refine lv_sipush (v := (400 : Int32)) hx hb dX1_grindBy_66 (by decide) ?_
          refine lv_icmp_le (tgt := 75) hx hb dX1_grindBy_69 (by decide) (fun hc8 => ?_) (fun hc8 => ?_)
          · replace hf := it hc8 hf
            refine lv_aload_n hx hb dX1_grindBy_75 rfl (lv_at hl 1 rfl) ?_
            refine lv_iload_n hx hb dX1_grindBy_76 rfl (lv_at hl 2 rfl) ?_
            by_cases hc9 : x1 = 0
            · replace hf := it hc9 hf
              refine cl_AV (As := [.int x1]) (rest := []) hF hP hD (c_X1_burrNumbered_0 gh a x1 pA pM pn pt d0 w0 g0 k0 d1 w1 g1 k1 qA qM qn qt uA uM un ut sF sk sm st se fi gr br pu nr hc9) (cwV 1 hts gX1_grindBy_X1_burrNumbered rfl rfl rfl (by decide +kernel) ⟨(Nat.le_of_ble_eq_true rfl), (Nat.le_of_ble_eq_true rfl)⟩) [0, 1, 2, 3, 4, 5, 6, 7, 8, 9, 10, 11, 12, 13, 14, 15] rfl (by decide +kernel) (va_recv hK hP (ci := 1) (q0 := 0) rfl rfl) rfl rfl hl.1 (Nat.le_of_ble_eq_true rfl) dX1_grindBy_77 ⟨Nat.zero_le _, Nat.zero_le _⟩ ?_
              refine lv_astore (lv' := [(4, .ref (a 5)), (3, .int v7), (0, .ref gh), (1, .int x1), (2, .int x2)]) hx hb dX1_grindBy_80 hl (by decide) rfl (fun ls hl => ?_)
              refine lv_aload_n hx hb dX1_grindBy_82 rfl (lv_at hl 2 rfl) ?_
              refine va_get hx hb hts n1_ hown hK hP 0 rfl rfl 0 (Nat.le_of_ble_eq_true rfl) k2_ (fun _ h => h) rfl dX1_grindBy_83 ?_
              refine lv_iload_n hx hb dX1_grindBy_86 rfl (lv_at hl 4 rfl) ?_
              refine lv_iload_n hx hb dX1_grindBy_87 rfl (lv_at hl 3 rfl) ?_
              refine lv_aload hx hb dX1_grindBy_88 (lv_at hl 0 rfl) ?_
              obtain ⟨q10, hq10, hf⟩ := ob hf
              refine cl_RV (As := []) (rest := [.int x1, .int x2, .ref (a 1)]) hF hP hD (c_X0_gap (a 5) d0 w0 g0 k0 q10 hq10) (cwV 0 hts gX1_grindBy_X0_gap rfl rfl rfl (by decide +kernel) ⟨(Nat.le_of_ble_eq_true rfl), (Nat.le_of_ble_eq_true rfl)⟩) [5] rfl (by decide +kernel) (va_recv hK hP (ci := 0) (q0 := 5) rfl rfl) rfl rfl hl.1 (Nat.le_of_ble_eq_true rfl) dX1_grindBy_90 ⟨Nat.zero_le _, Nat.zero_le _⟩ ?_
              refine lv_aload_n hx hb dX1_grindBy_93 rfl (lv_at hl 2 rfl) ?_
              refine va_get hx hb hts n1_ hown hK hP 0 rfl rfl 3 (Nat.le_of_ble_eq_true rfl) k4_ (fun _ h => h) rfl dX1_grindBy_94 ?_
              obtain ⟨q11, hq11, hf⟩ := ob hf
              refine cl_VV (W1 := (w_grinder cI cC gh a q11.1 q11.2.1 q11.2.2.1 q11.2.2.2.1 d0 w0 g0 k0 d1 w1 g1 k1 q11.2.2.2.2.1 q11.2.2.2.2.2.1 q11.2.2.2.2.2.2.1 q11.2.2.2.2.2.2.2 uA uM un ut sF sk sm st se fi gr br pu nr)) (As := [.int x2, .int x1, .int q10, .ref (a 7)]) (rest := []) hF hP hD hS (c_X3_letOut (a 1) (a 2) (a 3) (a 4) (a 7) (a 8) (a 9) 6 106 x2 x1 q10 pA pM pn pt qA qM qn qt q11 hq11) (cwV 4 hts gX1_grindBy_X3_letOut rfl rfl rfl (by decide +kernel) ⟨(Nat.le_of_ble_eq_true rfl), (Nat.le_of_ble_eq_true rfl)⟩) [1, 2, 3, 4, 7, 8, 9] rfl (by decide +kernel) (va_recv hK hP (ci := 3) (q0 := 1) rfl rfl) rfl rfl hl.1 (Nat.le_of_ble_eq_true rfl) dX1_grindBy_97 ⟨Nat.zero_le _, Nat.zero_le _⟩ (hA2 [(a 1), (a 2), (a 3), (a 4), (a 7), (a 8), (a 9)] rfl rfl) [0, 5, 6, 10, 11, 12, 13, 14, 15] rfl [(gh, .inr (1, [.ref (a 1), .ref (a 5), .ref (a 6), .ref (a 7), .ref (a 10), .ref (a 13), .ref (a 15), .int se, .int fi, .int gr, .int br, .int pu, .int nr])), ((a 5), .inr (0, [.int d0, .int w0, .int g0, .int k0])), ((a 6), .inr (0, [.int d1, .int w1, .int g1, .int k1])), ((a 10), .inr (5, [.ref (a 11), .ref (a 12), .int un, .int ut])), ((a 11), .inl (cI, 400, .inl uA)), ((a 12), .inl (cI, 400, .inl uM)), ((a 13), .inr (6, [.ref (a 14), .int sk, .int sm])), ((a 14), .inl (cI, 96, .inl sF)), ((a 15), .inl (cI, 6, .inl st))] rfl rfl (nW := 16) rfl (by decide +kernel) (fun H locs hP hD hS => ?_)
              refine lv_aload hx hb dX1_grindBy_100 (lv_at hl 0 rfl) ?_
              refine lv_iload_n hx hb dX1_grindBy_102 rfl (lv_at hl 4 rfl) ?_
              obtain ⟨q12, hq12, hf⟩ := ob hf
              refine cl_VV (W1 := (w_grinder cI cC gh a q11.1 q11.2.1 q11.2.2.1 q11.2.2.2.1 d0 q12.1 q12.2 k0 d1 w1 g1 k1 q11.2.2.2.2.1 q11.2.2.2.2.2.1 q11.2.2.2.2.2.2.1 q11.2.2.2.2.2.2.2 uA uM un ut sF sk sm st se fi gr br pu nr)) (As := [.int x2]) (rest := []) hF hP hD hS (c_X0_warmByGrinding (a 5) x2 d0 w0 g0 k0 q12 hq12) (cwV 1 hts gX1_grindBy_X0_warmByGrinding rfl rfl rfl (by decide +kernel) ⟨(Nat.le_of_ble_eq_true rfl), (Nat.le_of_ble_eq_true rfl)⟩) [5] rfl (by decide +kernel) (va_recv hK hP (ci := 0) (q0 := 5) rfl rfl) rfl rfl hl.1 (Nat.le_of_ble_eq_true rfl) dX1_grindBy_103 ⟨Nat.zero_le _, Nat.zero_le _⟩ (hA2 [(a 5)] rfl rfl) [0, 1, 2, 3, 4, 6, 7, 8, 9, 10, 11, 12, 13, 14, 15] rfl [(gh, .inr (1, [.ref (a 1), .ref (a 5), .ref (a 6), .ref (a 7), .ref (a 10), .ref (a 13), .ref (a 15), .int se, .int fi, .int gr, .int br, .int pu, .int nr])), ((a 1), .inr (3, [.ref (a 2)])), ((a 2), .inr (5, [.ref (a 3), .ref (a 4), .int q11.2.2.1, .int q11.2.2.2.1])), ((a 3), .inl (cI, 6, .inl q11.1)), ((a 4), .inl (cI, 6, .inl q11.2.1)), ((a 6), .inr (0, [.int d1, .int w1, .int g1, .int k1])), ((a 7), .inr (5, [.ref (a 8), .ref (a 9), .int q11.2.2.2.2.2.2.1, .int q11.2.2.2.2.2.2.2])), ((a 8), .inl (cI, 106, .inl q11.2.2.2.2.1)), ((a 9), .inl (cI, 106, .inl q11.2.2.2.2.2.1)), ((a 10), .inr (5, [.ref (a 11), .ref (a 12), .int un, .int ut])), ((a 11), .inl (cI, 400, .inl uA)), ((a 12), .inl (cI, 400, .inl uM)), ((a 13), .inr (6, [.ref (a 14), .int sk, .int sm])), ((a 14), .inl (cI, 96, .inl sF)), ((a 15), .inl (cI, 6, .inl st))] rfl rfl (nW := 16) rfl (by decide +kernel) (fun H locs hP hD hS => ?_)
              refine lv_aload_n hx hb dX1_grindBy_106 rfl (lv_at hl 2 rfl) ?_
              refine va_get hx hb hts n1_ hown hK hP 0 rfl rfl 3 (Nat.le_of_ble_eq_true rfl) k4_ (fun _ h => h) rfl dX1_grindBy_107 ?_
              refine lv_iload_n hx hb dX1_grindBy_110 rfl (lv_at hl 1 rfl) ?_
              refine lv_iconst (v := (0 : Int32)) hx hb dX1_grindBy_111 (by decide) ?_
              refine lv_aload_n hx hb dX1_grindBy_112 rfl (lv_at hl 2 rfl) ?_
              refine va_get hx hb hts n1_ hown hK hP 0 rfl rfl 4 (Nat.le_of_ble_eq_true rfl) k10_ (fun _ h => h) rfl dX1_grindBy_113 ?_
              obtain ⟨q13, hq13, hf⟩ := ob hf
              refine cl_VV (W1 := (w_grinder cI cC gh a q11.1 q11.2.1 q11.2.2.1 q11.2.2.2.1 d0 q12.1 q12.2 k0 d1 w1 g1 k1 q13.1 q13.2.1 q13.2.2.1 q13.2.2.2.1 q13.2.2.2.2.1 q13.2.2.2.2.2.1 q13.2.2.2.2.2.2.1 q13.2.2.2.2.2.2.2 sF sk sm st se fi gr br pu nr)) (As := [.int v7, .int (0 : Int32), .ref (a 10)]) (rest := []) hF hP hD hS (c_X5_letOut (a 7) (a 8) (a 9) (a 10) (a 11) (a 12) 106 400 v7 (0 : Int32) q11.2.2.2.2.1 q11.2.2.2.2.2.1 q11.2.2.2.2.2.2.1 q11.2.2.2.2.2.2.2 uA uM un ut q13 hq13) (cwV 3 hts gX1_grindBy_X5_letOut rfl rfl rfl (by decide +kernel) ⟨(Nat.le_of_ble_eq_true rfl), (Nat.le_of_ble_eq_true rfl)⟩) [7, 8, 9, 10, 11, 12] rfl (by decide +kernel) (va_recv hK hP (ci := 5) (q0 := 7) rfl rfl) rfl rfl hl.1 (Nat.le_of_ble_eq_true rfl) dX1_grindBy_116 ⟨Nat.zero_le _, Nat.zero_le _⟩ (hA2 [(a 7), (a 8), (a 9), (a 10), (a 11), (a 12)] rfl rfl) [0, 1, 2, 3, 4, 5, 6, 13, 14, 15] rfl [(gh, .inr (1, [.ref (a 1), .ref (a 5), .ref (a 6), .ref (a 7), .ref (a 10), .ref (a 13), .ref (a 15), .int se, .int fi, .int gr, .int br, .int pu, .int nr])), ((a 1), .inr (3, [.ref (a 2)])), ((a 2), .inr (5, [.ref (a 3), .ref (a 4), .int q11.2.2.1, .int q11.2.2.2.1])), ((a 3), .inl (cI, 6, .inl q11.1)), ((a 4), .inl (cI, 6, .inl q11.2.1)), ((a 5), .inr (0, [.int d0, .int q12.1, .int q12.2, .int k0])), ((a 6), .inr (0, [.int d1, .int w1, .int g1, .int k1])), ((a 13), .inr (6, [.ref (a 14), .int sk, .int sm])), ((a 14), .inl (cI, 96, .inl sF)), ((a 15), .inl (cI, 6, .inl st))] rfl rfl (nW := 16) rfl (by decide +kernel) (fun H locs hP hD hS => ?_)
              refine lv_aload_n hx hb dX1_grindBy_119 rfl (lv_at hl 2 rfl) ?_
              refine lv_dup hx hb dX1_grindBy_120 rfl ?_
              refine va_get hx hb hts n1_ hown hK hP 0 rfl rfl 9 (Nat.le_of_ble_eq_true rfl) k12_ (fun _ h => h) rfl dX1_grindBy_121 ?_
              refine lv_iload_n hx hb dX1_grindBy_124 rfl (lv_at hl 4 rfl) ?_
              refine lv_iadd hx hb dX1_grindBy_125 ?_
              refine lv_topi (fun v14 ev14 => ?_)
              replace hf := lt_e ev14 hf
              refine va_put hx hb hts n1_ tyX1 tyX1_ok nmX1 hown hK hP hD hS 0 rfl rfl 9 (Nat.le_of_ble_eq_true rfl) k12_ (fun _ h => h) rfl (v := .int v14) (tyX1_ok 9 (Nat.le_of_ble_eq_true rfl)) rfl rfl (Nat.le_of_ble_eq_true rfl) dX1_grindBy_126 (fun H locs hP hD hS => ?_)
              have hP : va_P D vwCl (w_grinder cI cC gh a q11.1 q11.2.1 q11.2.2.1 q11.2.2.2.1 d0 q12.1 q12.2 k0 d1 w1 g1 k1 q13.1 q13.2.1 q13.2.2.1 q13.2.2.2.1 q13.2.2.2.2.1 q13.2.2.2.2.2.1 q13.2.2.2.2.2.2.1 q13.2.2.2.2.2.2.2 sF sk sm st se fi v14 br pu nr) H := hP
              have hD : va_D AA (w_grinder cI cC gh a q11.1 q11.2.1 q11.2.2.1 q11.2.2.2.1 d0 q12.1 q12.2 k0 d1 w1 g1 k1 q13.1 q13.2.1 q13.2.2.1 q13.2.2.2.1 q13.2.2.2.2.1 q13.2.2.2.2.2.1 q13.2.2.2.2.2.2.1 q13.2.2.2.2.2.2.2 sF sk sm st se fi v14 br pu nr) := hD
              refine lv_aload_n hx hb dX1_grindBy_129 rfl (lv_at hl 2 rfl) ?_
              refine lv_iload_n hx hb dX1_grindBy_130 rfl (lv_at hl 4 rfl) ?_
              refine lv_bipush (v := (9 : Int32)) hx hb dX1_grindBy_131 (by decide) ?_
              refine lv_iadd hx hb dX1_grindBy_133 ?_
              refine lv_bipush (v := (10 : Int32)) hx hb dX1_grindBy_134 (by decide) ?_
              refine lv_idiv hx hb dX1_grindBy_136 (by decide) ?_
              obtain ⟨q15, hq15, hf⟩ := ob hf
              refine cl_VV (W1 := (w_grinder cI cC gh a q11.1 q11.2.1 q11.2.2.1 q11.2.2.2.1 d0 q15.1 q12.2 k0 d1 q15.2.1 g1 k1 q13.1 q13.2.1 q13.2.2.1 q13.2.2.2.1 q13.2.2.2.2.1 q13.2.2.2.2.2.1 q13.2.2.2.2.2.2.1 q13.2.2.2.2.2.2.2 sF sk sm st q15.2.2 fi v14 br pu nr)) (As := [.int ((x2 + (9 : Int32)) / (10 : Int32))]) (rest := []) hF hP hD hS (c_X1_passSeconds gh a ((x2 + (9 : Int32)) / (10 : Int32)) q11.1 q11.2.1 q11.2.2.1 q11.2.2.2.1 d0 q12.1 q12.2 k0 d1 w1 g1 k1 q13.1 q13.2.1 q13.2.2.1 q13.2.2.2.1 q13.2.2.2.2.1 q13.2.2.2.2.2.1 q13.2.2.2.2.2.2.1 q13.2.2.2.2.2.2.2 sF sk sm st se fi v14 br pu nr q15 hq15) (cwV 1 hts gX1_grindBy_X1_passSeconds rfl rfl rfl (by decide +kernel) ⟨(Nat.le_of_ble_eq_true rfl), (Nat.le_of_ble_eq_true rfl)⟩) [0, 1, 2, 3, 4, 5, 6, 7, 8, 9, 10, 11, 12, 13, 14, 15] rfl (by decide +kernel) (va_recv hK hP (ci := 1) (q0 := 0) rfl rfl) rfl rfl hl.1 (Nat.le_of_ble_eq_true rfl) dX1_grindBy_137 ⟨Nat.zero_le _, Nat.zero_le _⟩ (hA2 [gh, (a 1), (a 2), (a 3), (a 4), (a 5), (a 6), (a 7), (a 8), (a 9), (a 10), (a 11), (a 12), (a 13), (a 14), (a 15)] rfl rfl) [] rfl [] rfl rfl (nW := 16) rfl (by decide +kernel) (fun H locs hP hD hS => ?_)
              refine lv_iload_n hx hb dX1_grindBy_140 rfl (lv_at hl 1 rfl) ?_
              obtain rfl := Option.some.inj hf
              exact ret 141 ls _ H locs dX1_grindBy_141 rfl rfl hP hS
            · replace hf := ie hc9 hf
              refine cl_AV (As := [.int x1]) (rest := []) hF hP hD (c_X1_burrNumbered_1 gh a x1 pA pM pn pt d0 w0 g0 k0 d1 w1 g1 k1 qA qM qn qt uA uM un ut sF sk sm st se fi gr br pu nr hc9) (cwV 1 hts gX1_grindBy_X1_burrNumbered rfl rfl rfl (by decide +kernel) ⟨(Nat.le_of_ble_eq_true rfl), (Nat.le_of_ble_eq_true rfl)⟩) [0, 1, 2, 3, 4, 5, 6, 7, 8, 9, 10, 11, 12, 13, 14, 15] rfl (by decide +kernel) (va_recv hK hP (ci := 1) (q0 := 0) rfl rfl) rfl rfl hl.1 (Nat.le_of_ble_eq_true rfl) dX1_grindBy_77 ⟨Nat.zero_le _, Nat.zero_le _⟩ ?_
              refine lv_astore (lv' := [(4, .ref (a 6)), (3, .int v7), (0, .ref gh), (1, .int x1), (2, .int x2)]) hx hb dX1_grindBy_80 hl (by decide) rfl (fun ls hl => ?_)
              refine lv_aload_n hx hb dX1_grindBy_82 rfl (lv_at hl 2 rfl) ?_
              refine va_get hx hb hts n1_ hown hK hP 0 rfl rfl 0 (Nat.le_of_ble_eq_true rfl) k2_ (fun _ h => h) rfl dX1_grindBy_83 ?_
              refine lv_iload_n hx hb dX1_grindBy_86 rfl (lv_at hl 4 rfl) ?_
              refine lv_iload_n hx hb dX1_grindBy_87 rfl (lv_at hl 3 rfl) ?_
              refine lv_aload hx hb dX1_grindBy_88 (lv_at hl 0 rfl) ?_
              obtain ⟨q16, hq16, hf⟩ := ob hf
              refine cl_RV (As := []) (rest := [.int x1, .int x2, .ref (a 1)]) hF hP hD (c_X0_gap (a 6) d1 w1 g1 k1 q16 hq16) (cwV 0 hts gX1_grindBy_X0_gap rfl rfl rfl (by decide +kernel) ⟨(Nat.le_of_ble_eq_true rfl), (Nat.le_of_ble_eq_true rfl)⟩) [6] rfl (by decide +kernel) (va_recv hK hP (ci := 0) (q0 := 6) rfl rfl) rfl rfl hl.1 (Nat.le_of_ble_eq_true rfl) dX1_grindBy_90 ⟨Nat.zero_le _, Nat.zero_le _⟩ ?_
              refine lv_aload_n hx hb dX1_grindBy_93 rfl (lv_at hl 2 rfl) ?_
              refine va_get hx hb hts n1_ hown hK hP 0 rfl rfl 3 (Nat.le_of_ble_eq_true rfl) k4_ (fun _ h => h) rfl dX1_grindBy_94 ?_
              obtain ⟨q17, hq17, hf⟩ := ob hf
              refine cl_VV (W1 := (w_grinder cI cC gh a q17.1 q17.2.1 q17.2.2.1 q17.2.2.2.1 d0 w0 g0 k0 d1 w1 g1 k1 q17.2.2.2.2.1 q17.2.2.2.2.2.1 q17.2.2.2.2.2.2.1 q17.2.2.2.2.2.2.2 uA uM un ut sF sk sm st se fi gr br pu nr)) (As := [.int x2, .int x1, .int q16, .ref (a 7)]) (rest := []) hF hP hD hS (c_X3_letOut (a 1) (a 2) (a 3) (a 4) (a 7) (a 8) (a 9) 6 106 x2 x1 q16 pA pM pn pt qA qM qn qt q17 hq17) (cwV 4 hts gX1_grindBy_X3_letOut rfl rfl rfl (by decide +kernel) ⟨(Nat.le_of_ble_eq_true rfl), (Nat.le_of_ble_eq_true rfl)⟩) [1, 2, 3, 4, 7, 8, 9] rfl (by decide +kernel) (va_recv hK hP (ci := 3) (q0 := 1) rfl rfl) rfl rfl hl.1 (Nat.le_of_ble_eq_true rfl) dX1_grindBy_97 ⟨Nat.zero_le _, Nat.zero_le _⟩ (hA2 [(a 1), (a 2), (a 3), (a 4), (a 7), (a 8), (a 9)] rfl rfl) [0, 5, 6, 10, 11, 12, 13, 14, 15] rfl [(gh, .inr (1, [.ref (a 1), .ref (a 5), .ref (a 6), .ref (a 7), .ref (a 10), .ref (a 13), .ref (a 15), .int se, .int fi, .int gr, .int br, .int pu, .int nr])), ((a 5), .inr (0, [.int d0, .int w0, .int g0, .int k0])), ((a 6), .inr (0, [.int d1, .int w1, .int g1, .int k1])), ((a 10), .inr (5, [.ref (a 11), .ref (a 12), .int un, .int ut])), ((a 11), .inl (cI, 400, .inl uA)), ((a 12), .inl (cI, 400, .inl uM)), ((a 13), .inr (6, [.ref (a 14), .int sk, .int sm])), ((a 14), .inl (cI, 96, .inl sF)), ((a 15), .inl (cI, 6, .inl st))] rfl rfl (nW := 16) rfl (by decide +kernel) (fun H locs hP hD hS => ?_)
              refine lv_aload hx hb dX1_grindBy_100 (lv_at hl 0 rfl) ?_
              refine lv_iload_n hx hb dX1_grindBy_102 rfl (lv_at hl 4 rfl) ?_
              obtain ⟨q18, hq18, hf⟩ := ob hf
              refine cl_VV (W1 := (w_grinder cI cC gh a q17.1 q17.2.1 q17.2.2.1 q17.2.2.2.1 d0 w0 g0 k0 d1 q18.1 q18.2 k1 q17.2.2.2.2.1 q17.2.2.2.2.2.1 q17.2.2.2.2.2.2.1 q17.2.2.2.2.2.2.2 uA uM un ut sF sk sm st se fi gr br pu nr)) (As := [.int x2]) (rest := []) hF hP hD hS (c_X0_warmByGrinding (a 6) x2 d1 w1 g1 k1 q18 hq18) (cwV 1 hts gX1_grindBy_X0_warmByGrinding rfl rfl rfl (by decide +kernel) ⟨(Nat.le_of_ble_eq_true rfl), (Nat.le_of_ble_eq_true rfl)⟩) [6] rfl (by decide +kernel) (va_recv hK hP (ci := 0) (q0 := 6) rfl rfl) rfl rfl hl.1 (Nat.le_of_ble_eq_true rfl) dX1_grindBy_103 ⟨Nat.zero_le _, Nat.zero_le _⟩ (hA2 [(a 6)] rfl rfl) [0, 1, 2, 3, 4, 5, 7, 8, 9, 10, 11, 12, 13, 14, 15] rfl [(gh, .inr (1, [.ref (a 1), .ref (a 5), .ref (a 6), .ref (a 7), .ref (a 10), .ref (a 13), .ref (a 15), .int se, .int fi, .int gr, .int br, .int pu, .int nr])), ((a 1), .inr (3, [.ref (a 2)])), ((a 2), .inr (5, [.ref (a 3), .ref (a 4), .int q17.2.2.1, .int q17.2.2.2.1])), ((a 3), .inl (cI, 6, .inl q17.1)), ((a 4), .inl (cI, 6, .inl q17.2.1)), ((a 5), .inr (0, [.int d0, .int w0, .int g0, .int k0])), ((a 7), .inr (5, [.ref (a 8), .ref (a 9), .int q17.2.2.2.2.2.2.1, .int q17.2.2.2.2.2.2.2])), ((a 8), .inl (cI, 106, .inl q17.2.2.2.2.1)), ((a 9), .inl (cI, 106, .inl q17.2.2.2.2.2.1)), ((a 10), .inr (5, [.ref (a 11), .ref (a 12), .int un, .int ut])), ((a 11), .inl (cI, 400, .inl uA)), ((a 12), .inl (cI, 400, .inl uM)), ((a 13), .inr (6, [.ref (a 14), .int sk, .int sm])), ((a 14), .inl (cI, 96, .inl sF)), ((a 15), .inl (cI, 6, .inl st))] rfl rfl (nW := 16) rfl (by decide +kernel) (fun H locs hP hD hS => ?_)
              refine lv_aload_n hx hb dX1_grindBy_106 rfl (lv_at hl 2 rfl) ?_
              refine va_get hx hb hts n1_ hown hK hP 0 rfl rfl 3 (Nat.le_of_ble_eq_true rfl) k4_ (fun _ h => h) rfl dX1_grindBy_107 ?_
              refine lv_iload_n hx hb dX1_grindBy_110 rfl (lv_at hl 1 rfl) ?_
              refine lv_iconst (v := (0 : Int32)) hx hb dX1_grindBy_111 (by decide) ?_
              refine lv_aload_n hx hb dX1_grindBy_112 rfl (lv_at hl 2 rfl) ?_
              refine va_get hx hb hts n1_ hown hK hP 0 rfl rfl 4 (Nat.le_of_ble_eq_true rfl) k10_ (fun _ h => h) rfl dX1_grindBy_113 ?_
              obtain ⟨q19, hq19, hf⟩ := ob hf
              refine cl_VV (W1 := (w_grinder cI cC gh a q17.1 q17.2.1 q17.2.2.1 q17.2.2.2.1 d0 w0 g0 k0 d1 q18.1 q18.2 k1 q19.1 q19.2.1 q19.2.2.1 q19.2.2.2.1 q19.2.2.2.2.1 q19.2.2.2.2.2.1 q19.2.2.2.2.2.2.1 q19.2.2.2.2.2.2.2 sF sk sm st se fi gr br pu nr)) (As := [.int v7, .int (0 : Int32), .ref (a 10)]) (rest := []) hF hP hD hS (c_X5_letOut (a 7) (a 8) (a 9) (a 10) (a 11) (a 12) 106 400 v7 (0 : Int32) q17.2.2.2.2.1 q17.2.2.2.2.2.1 q17.2.2.2.2.2.2.1 q17.2.2.2.2.2.2.2 uA uM un ut q19 hq19) (cwV 3 hts gX1_grindBy_X5_letOut rfl rfl rfl (by decide +kernel) ⟨(Nat.le_of_ble_eq_true rfl), (Nat.le_of_ble_eq_true rfl)⟩) [7, 8, 9, 10, 11, 12] rfl (by decide +kernel) (va_recv hK hP (ci := 5) (q0 := 7) rfl rfl) rfl rfl hl.1 (Nat.le_of_ble_eq_true rfl) dX1_grindBy_116 ⟨Nat.zero_le _, Nat.zero_le _⟩ (hA2 [(a 7), (a 8), (a 9), (a 10), (a 11), (a 12)] rfl rfl) [0, 1, 2, 3, 4, 5, 6, 13, 14, 15] rfl [(gh, .inr (1, [.ref (a 1), .ref (a 5), .ref (a 6), .ref (a 7), .ref (a 10), .ref (a 13), .ref (a 15), .int se, .int fi, .int gr, .int br, .int pu, .int nr])), ((a 1), .inr (3, [.ref (a 2)])), ((a 2), .inr (5, [.ref (a 3), .ref (a 4), .int q17.2.2.1, .int q17.2.2.2.1])), ((a 3), .inl (cI, 6, .inl q17.1)), ((a 4), .inl (cI, 6, .inl q17.2.1)), ((a 5), .inr (0, [.int d0, .int w0, .int g0, .int k0])), ((a 6), .inr (0, [.int d1, .int q18.1, .int q18.2, .int k1])), ((a 13), .inr (6, [.ref (a 14), .int sk, .int sm])), ((a 14), .inl (cI, 96, .inl sF)), ((a 15), .inl (cI, 6, .inl st))] rfl rfl (nW := 16) rfl (by decide +kernel) (fun H locs hP hD hS => ?_)
              refine lv_aload_n hx hb dX1_grindBy_119 rfl (lv_at hl 2 rfl) ?_
              refine lv_dup hx hb dX1_grindBy_120 rfl ?_
              refine va_get hx hb hts n1_ hown hK hP 0 rfl rfl 9 (Nat.le_of_ble_eq_true rfl) k12_ (fun _ h => h) rfl dX1_grindBy_121 ?_
              refine lv_iload_n hx hb dX1_grindBy_124 rfl (lv_at hl 4 rfl) ?_
              refine lv_iadd hx hb dX1_grindBy_125 ?_
              refine lv_topi (fun v20 ev20 => ?_)
              replace hf := lt_e ev20 hf
              refine va_put hx hb hts n1_ tyX1 tyX1_ok nmX1 hown hK hP hD hS 0 rfl rfl 9 (Nat.le_of_ble_eq_true rfl) k12_ (fun _ h => h) rfl (v := .int v20) (tyX1_ok 9 (Nat.le_of_ble_eq_true rfl)) rfl rfl (Nat.le_of_ble_eq_true rfl) dX1_grindBy_126 (fun H locs hP hD hS => ?_)
              have hP : va_P D vwCl (w_grinder cI cC gh a q17.1 q17.2.1 q17.2.2.1 q17.2.2.2.1 d0 w0 g0 k0 d1 q18.1 q18.2 k1 q19.1 q19.2.1 q19.2.2.1 q19.2.2.2.1 q19.2.2.2.2.1 q19.2.2.2.2.2.1 q19.2.2.2.2.2.2.1 q19.2.2.2.2.2.2.2 sF sk sm st se fi v20 br pu nr) H := hP
              have hD : va_D AA (w_grinder cI cC gh a q17.1 q17.2.1 q17.2.2.1 q17.2.2.2.1 d0 w0 g0 k0 d1 q18.1 q18.2 k1 q19.1 q19.2.1 q19.2.2.1 q19.2.2.2.1 q19.2.2.2.2.1 q19.2.2.2.2.2.1 q19.2.2.2.2.2.2.1 q19.2.2.2.2.2.2.2 sF sk sm st se fi v20 br pu nr) := hD
              refine lv_aload_n hx hb dX1_grindBy_129 rfl (lv_at hl 2 rfl) ?_
              refine lv_iload_n hx hb dX1_grindBy_130 rfl (lv_at hl 4 rfl) ?_
              refine lv_bipush (v := (9 : Int32)) hx hb dX1_grindBy_131 (by decide) ?_
              refine lv_iadd hx hb dX1_grindBy_133 ?_
              refine lv_bipush (v := (10 : Int32)) hx hb dX1_grindBy_134 (by decide) ?_
              refine lv_idiv hx hb dX1_grindBy_136 (by decide) ?_
              obtain ⟨q21, hq21, hf⟩ := ob hf
              refine cl_VV (W1 := (w_grinder cI cC gh a q17.1 q17.2.1 q17.2.2.1 q17.2.2.2.1 d0 q21.1 g0 k0 d1 q21.2.1 q18.2 k1 q19.1 q19.2.1 q19.2.2.1 q19.2.2.2.1 q19.2.2.2.2.1 q19.2.2.2.2.2.1 q19.2.2.2.2.2.2.1 q19.2.2.2.2.2.2.2 sF sk sm st q21.2.2 fi v20 br pu nr)) (As := [.int ((x2 + (9 : Int32)) / (10 : Int32))]) (rest := []) hF hP hD hS (c_X1_passSeconds gh a ((x2 + (9 : Int32)) / (10 : Int32)) q17.1 q17.2.1 q17.2.2.1 q17.2.2.2.1 d0 w0 g0 k0 d1 q18.1 q18.2 k1 q19.1 q19.2.1 q19.2.2.1 q19.2.2.2.1 q19.2.2.2.2.1 q19.2.2.2.2.2.1 q19.2.2.2.2.2.2.1 q19.2.2.2.2.2.2.2 sF sk sm st se fi v20 br pu nr q21 hq21) (cwV 1 hts gX1_grindBy_X1_passSeconds rfl rfl rfl (by decide +kernel) ⟨(Nat.le_of_ble_eq_true rfl), (Nat.le_of_ble_eq_true rfl)⟩) [0, 1, 2, 3, 4, 5, 6, 7, 8, 9, 10, 11, 12, 13, 14, 15] rfl (by decide +kernel) (va_recv hK hP (ci := 1) (q0 := 0) rfl rfl) rfl rfl hl.1 (Nat.le_of_ble_eq_true rfl) dX1_grindBy_137 ⟨Nat.zero_le _, Nat.zero_le _⟩ (hA2 [gh, (a 1), (a 2), (a 3), (a 4), (a 5), (a 6), (a 7), (a 8), (a 9), (a 10), (a 11), (a 12), (a 13), (a 14), (a 15)] rfl rfl) [] rfl [] rfl rfl (nW := 16) rfl (by decide +kernel) (fun H locs hP hD hS => ?_)
              refine lv_iload_n hx hb dX1_grindBy_140 rfl (lv_at hl 1 rfl) ?_
              obtain rfl := Option.some.inj hf
              exact ret 141 ls _ H locs dX1_grindBy_141 rfl rfl hP hS
          · replace hf := ie hc8 hf
            refine lv_ldc hx hb hown k11_ dX1_grindBy_72 ?_
            obtain rfl := Option.some.inj hf
            exact ret 74 ls _ H locs dX1_grindBy_74 rfl rfl hP hS
        · replace hf := ie hc6 hf
          refine lv_ldc hx hb hown k3_ dX1_grindBy_33 ?_
          obtain rfl := Option.some.inj hf
          exact ret 35 ls _ H locs dX1_grindBy_35 rfl rfl hP hS
      · replace hf := ie hc4 hf
        refine lv_ldc hx hb hown k1_ dX1_grindBy_19 ?_
        obtain rfl := Option.some.inj hf
        exact ret 21 ls _ H locs dX1_grindBy_21 rfl rfl hP hS
end
