section
variable {l : Launch} {D : va_G} {cI cC : ClassId}

abbrev rmX1_fillIn : Room := { frames := 4, cells := 0, slots := 0, locals := 64 }
set_option maxHeartbeats 4000000 in
set_option maxRecDepth 100000 in
theorem c_X1_fillIn (gh : Nat) (a : Nat → Nat) (x1 : Int32) (x2 : Int32) (pA : Nat → Int32) (pM : Nat → Int32) (pn : Int32) (pt : Int32) (d0 : Int32) (w0 : Int32) (g0 : Int32) (k0 : Int32) (d1 : Int32) (w1 : Int32) (g1 : Int32) (k1 : Int32) (qA : Nat → Int32) (qM : Nat → Int32) (qn : Int32) (qt : Int32) (uA : Nat → Int32) (uM : Nat → Int32) (un : Int32) (ut : Int32) (sF : Nat → Int32) (sk : Int32) (sm : Int32) (st : Nat → Int32) (se : Int32) (fi : Int32) (gr : Int32) (br : Int32) (pu : Int32) (nr : Int32) (R : Int32 × (Nat → Int32) × (Nat → Int32) × Int32 × Int32 × Int32) (hf : f_X1_fillIn x1 x2 pA pM pn pt fi = some R) : WrI l yX1_fillIn wsX1_fillIn rmX1_fillIn D cI cC (w_grinder cI cC gh a pA pM pn pt d0 w0 g0 k0 d1 w1 g1 k1 qA qM qn qt uA uM un ut sF sk sm st se fi gr br pu nr) (w_grinder cI cC gh a R.2.1 R.2.2.1 R.2.2.2.1 R.2.2.2.2.1 d0 w0 g0 k0 d1 w1 g1 k1 qA qM qn qt uA uM un ut sF sk sm st se R.2.2.2.2.2 gr br pu nr) [.ref gh, .int x1, .int x2] R.1 := by
  refine en_W (cc := cX1_fillIn) (n := 3) (by decide) rfl (Nat.le_of_ble_eq_true rfl) ?_
  intro p e s m args below meth c Q AA ls hx hb hml hown hts hK hN hP hD hS hl ret
  have hown : s.vm.findClass RX1 = some m.cls := hown
  have hF : FX p m c cX1_fillIn 3 s args wsX1_fillIn RX1 D cI cC := ⟨⟨hx, hb, hml, hown, hts⟩, hK, hN⟩
  have hl : lv_has ls 3 [(0, .ref gh), (1, .int x1), (2, .int x2)] := hl
  have k1_ := hts (.constant RX1 93 (-1000001)) (List.mem_of_getElem? (i := 1) rfl)
  have k2_ := hts (.fieldLink RX1 12 "DriftGrinders$Grinder" "hopper" "LDriftGrinders$Hopper;") (List.mem_of_getElem? (i := 2) rfl)
  have k3_ := hts (.constant RX1 98 (-1000003)) (List.mem_of_getElem? (i := 3) rfl)
  have k4_ := hts (.fieldLink RX1 74 "DriftGrinders$Grinder" "filled" "I") (List.mem_of_getElem? (i := 4) rfl)
  have k5_ := hts (.static yX7_isZeroOrOne) (List.mem_of_getElem? (i := 5) rfl)
  have k6_ := hts (.initialized RX7) (List.mem_of_getElem? (i := 6) rfl)
  have n1_ : ∀ w ∈ wsX10, w ∈ wsX1_fillIn := fun _ h => List.mem_cons_of_mem _ (List.mem_append_left _ (List.mem_append_left _ (List.mem_append_right _ h)))
  rw [f_X1_fillIn] at hf
  obtain ⟨H, hH⟩ : ∃ z : Heap, z = s.heap := ⟨_, rfl⟩
  obtain ⟨locs, hL⟩ : ∃ z : List Loc, z = [] := ⟨_, rfl⟩
  replace hP := hH ▸ hP
  replace hS : va_S AA s.heap H locs := by rw [hH, hL]; exact hS
  suffices hgoal : W p l e rmX1_fillIn s m args below meth c H locs 0 0 Q (F0 m 0 ls []) by rw [hH, hL] at hgoal; exact hgoal
  clear hH hL
  refine lv_iload_n hx hb dX1_fillIn_0 rfl (lv_at hl 1 rfl) ?_
  obtain ⟨q1, hq1, hf⟩ := ob hf
  refine cl_RN (As := [.int x1]) (rest := []) hF hP hD (c_X7_isZeroOrOne x1 q1 hq1) ⟨va_cnB 1 hts gX1_fillIn_X7_isZeroOrOne_n89 rfl rfl rfl (hN.nw 29 rfl) k6_ (by decide +kernel) ⟨(Nat.le_of_ble_eq_true rfl), (Nat.le_of_ble_eq_true rfl)⟩, k5_, trivial⟩ [] rfl (by decide +kernel) rfl rfl hl.1 (Nat.le_of_ble_eq_true rfl) dX1_fillIn_1 ⟨Nat.zero_le _, Nat.zero_le _⟩ ?_
  refine lv_if_eq (tgt := 19) hx hb dX1_fillIn_4 (by decide) (fun hc2 => ?_) (fun hc2 => ?_)
  · replace hf := it hc2 hf
    refine lv_ldc hx hb hown k1_ dX1_fillIn_19 ?_
    obtain rfl := Option.some.inj hf
    exact ret 21 ls _ H locs dX1_fillIn_21 rfl rfl hP hS
  · replace hf := ie hc2 hf
    refine lv_iload_n hx hb dX1_fillIn_7 rfl (lv_at hl 2 rfl) ?_
    refine lv_iconst (v := (1 : Int32)) hx hb dX1_fillIn_8 (by decide) ?_
    refine lv_icmp_lt (tgt := 19) hx hb dX1_fillIn_9 (by decide) (fun hc3 => ?_) (fun hc3 => ?_)
    · replace hf := it hc3 hf
      refine lv_ldc hx hb hown k1_ dX1_fillIn_19 ?_
      obtain rfl := Option.some.inj hf
      exact ret 21 ls _ H locs dX1_fillIn_21 rfl rfl hP hS
    · replace hf := ie hc3 hf
      refine lv_iload_n hx hb dX1_fillIn_12 rfl (lv_at hl 2 rfl) ?_
      refine lv_sipush (v := (999 : Int32)) hx hb dX1_fillIn_13 (by decide) ?_
      refine lv_icmp_le (tgt := 22) hx hb dX1_fillIn_16 (by decide) (fun hc4 => ?_) (fun hc4 => ?_)
      · replace hf := it hc4 hf
        refine lv_aload_n hx hb dX1_fillIn_22 rfl (lv_at hl 0 rfl) ?_
        refine va_get hx hb hts n1_ hown hK hP 0 rfl rfl 0 (Nat.le_of_ble_eq_true rfl) k2_ (fun _ h => h) rfl dX1_fillIn_23 ?_
        refine lv_iload_n hx hb dX1_fillIn_26 rfl (lv_at hl 1 rfl) ?_
        refine lv_iload_n hx hb dX1_fillIn_27 rfl (lv_at hl 2 rfl) ?_
        obtain ⟨q5, hq5, hf⟩ := ob hf
        refine cl_RV (As := [.int x1, .int x2]) (rest := []) hF hP hD (c_X3_hasRoomFor (a 1) (a 2) (a 3) (a 4) 6 x1 x2 pA pM pn pt q5 hq5) (cwV 2 hts gX1_fillIn_X3_hasRoomFor rfl rfl rfl (by decide +kernel) ⟨(Nat.le_of_ble_eq_true rfl), (Nat.le_of_ble_eq_true rfl)⟩) [1, 2, 3, 4] rfl (by decide +kernel) (va_recv hK hP (ci := 3) (q0 := 1) rfl rfl) rfl rfl hl.1 (Nat.le_of_ble_eq_true rfl) dX1_fillIn_28 ⟨Nat.zero_le _, Nat.zero_le _⟩ ?_
        refine lv_if_ne (tgt := 37) hx hb dX1_fillIn_31 (by decide) (fun hc6 => ?_) (fun hc6 => ?_)
        · replace hf := ie hc6 hf
          refine lv_aload_n hx hb dX1_fillIn_37 rfl (lv_at hl 0 rfl) ?_
          refine va_get hx hb hts n1_ hown hK hP 0 rfl rfl 0 (Nat.le_of_ble_eq_true rfl) k2_ (fun _ h => h) rfl dX1_fillIn_38 ?_
          refine lv_iload_n hx hb dX1_fillIn_41 rfl (lv_at hl 1 rfl) ?_
          refine lv_iload_n hx hb dX1_fillIn_42 rfl (lv_at hl 2 rfl) ?_
          obtain ⟨q7, hq7, hf⟩ := ob hf
          refine cl_VV (W1 := (w_grinder cI cC gh a q7.1 q7.2.1 q7.2.2.1 q7.2.2.2 d0 w0 g0 k0 d1 w1 g1 k1 qA qM qn qt uA uM un ut sF sk sm st se fi gr br pu nr)) (As := [.int x1, .int x2]) (rest := []) hF hP hD hS (c_X3_pourIn (a 1) (a 2) (a 3) (a 4) 6 x1 x2 pA pM pn pt q7 hq7) (cwV 2 hts gX1_fillIn_X3_pourIn rfl rfl rfl (by decide +kernel) ⟨(Nat.le_of_ble_eq_true rfl), (Nat.le_of_ble_eq_true rfl)⟩) [1, 2, 3, 4] rfl (by decide +kernel) (va_recv hK hP (ci := 3) (q0 := 1) rfl rfl) rfl rfl hl.1 (Nat.le_of_ble_eq_true rfl) dX1_fillIn_43 ⟨Nat.zero_le _, Nat.zero_le _⟩ (hA2 [(a 1), (a 2), (a 3), (a 4)] rfl rfl) [0, 5, 6, 7, 8, 9, 10, 11, 12, 13, 14, 15] rfl [(gh, .inr (1, [.ref (a 1), .ref (a 5), .ref (a 6), .ref (a 7), .ref (a 10), .ref (a 13), .ref (a 15), .int se, .int fi, .int gr, .int br, .int pu, .int nr])), ((a 5), .inr (0, [.int d0, .int w0, .int g0, .int k0])), ((a 6), .inr (0, [.int d1, .int w1, .int g1, .int k1])), ((a 7), .inr (5, [.ref (a 8), .ref (a 9), .int qn, .int qt])), ((a 8), .inl (cI, 106, .inl qA)), ((a 9), .inl (cI, 106, .inl qM)), ((a 10), .inr (5, [.ref (a 11), .ref (a 12), .int un, .int ut])), ((a 11), .inl (cI, 400, .inl uA)), ((a 12), .inl (cI, 400, .inl uM)), ((a 13), .inr (6, [.ref (a 14), .int sk, .int sm])), ((a 14), .inl (cI, 96, .inl sF)), ((a 15), .inl (cI, 6, .inl st))] rfl rfl (nW := 16) rfl (by decide +kernel) (fun H locs hP hD hS => ?_)
          refine lv_aload_n hx hb dX1_fillIn_46 rfl (lv_at hl 0 rfl) ?_
          refine lv_dup hx hb dX1_fillIn_47 rfl ?_
          refine va_get hx hb hts n1_ hown hK hP 0 rfl rfl 8 (Nat.le_of_ble_eq_true rfl) k4_ (fun _ h => h) rfl dX1_fillIn_48 ?_
          refine lv_iload_n hx hb dX1_fillIn_51 rfl (lv_at hl 2 rfl) ?_
          refine lv_iadd hx hb dX1_fillIn_52 ?_
          refine lv_topi (fun v8 ev8 => ?_)
          replace hf := lt_e ev8 hf
          refine va_put hx hb hts n1_ tyX1 tyX1_ok nmX1 hown hK hP hD hS 0 rfl rfl 8 (Nat.le_of_ble_eq_true rfl) k4_ (fun _ h => h) rfl (v := .int v8) (tyX1_ok 8 (Nat.le_of_ble_eq_true rfl)) rfl rfl (Nat.le_of_ble_eq_true rfl) dX1_fillIn_53 (fun H locs hP hD hS => ?_)
          have hP : va_P D vwCl (w_grinder cI cC gh a q7.1 q7.2.1 q7.2.2.1 q7.2.2.2 d0 w0 g0 k0 d1 w1 g1 k1 qA qM qn qt uA uM un ut sF sk sm st se v8 gr br pu nr) H := hP
          have hD : va_D AA (w_grinder cI cC gh a q7.1 q7.2.1 q7.2.2.1 q7.2.2.2 d0 w0 g0 k0 d1 w1 g1 k1 qA qM qn qt uA uM un ut sF sk sm st se v8 gr br pu nr) := hD
          refine lv_aload_n hx hb dX1_fillIn_56 rfl (lv_at hl 0 rfl) ?_
          refine va_get hx hb hts n1_ hown hK hP 0 rfl rfl 0 (Nat.le_of_ble_eq_true rfl) k2_ (fun _ h => h) rfl dX1_fillIn_57 ?_
          obtain ⟨q9, hq9, hf⟩ := ob hf
          refine cl_RV (As := []) (rest := []) hF hP hD (c_X3_amount (a 1) (a 2) (a 3) (a 4) 6 q7.1 q7.2.1 q7.2.2.1 q7.2.2.2 q9 hq9) (cwV 0 hts gX1_fillIn_X3_amount rfl rfl rfl (by decide +kernel) ⟨(Nat.le_of_ble_eq_true rfl), (Nat.le_of_ble_eq_true rfl)⟩) [1, 2, 3, 4] rfl (by decide +kernel) (va_recv hK hP (ci := 3) (q0 := 1) rfl rfl) rfl rfl hl.1 (Nat.le_of_ble_eq_true rfl) dX1_fillIn_60 ⟨Nat.zero_le _, Nat.zero_le _⟩ ?_
          obtain rfl := Option.some.inj hf
          exact ret 63 ls _ H locs dX1_fillIn_63 rfl rfl hP hS
        · replace hf := it hc6 hf
          refine lv_ldc hx hb hown k3_ dX1_fillIn_34 ?_
          obtain rfl := Option.some.inj hf
          exact ret 36 ls _ H locs dX1_fillIn_36 rfl rfl hP hS
      · replace hf := ie hc4 hf
        refine lv_ldc hx hb hown k1_ dX1_fillIn_19 ?_
        obtain rfl := Option.some.inj hf
        exact ret 21 ls _ H locs dX1_fillIn_21 rfl rfl hP hS
abbrev rmX1_turnDial : Room := { frames := 2, cells := 0, slots := 0, locals := 21 }
set_option maxHeartbeats 4000000 in
set_option maxRecDepth 100000 in
theorem c_X1_turnDial (gh : Nat) (a : Nat → Nat) (x1 : Int32) (x2 : Int32) (pA : Nat → Int32) (pM : Nat → Int32) (pn : Int32) (pt : Int32) (d0 : Int32) (w0 : Int32) (g0 : Int32) (k0 : Int32) (d1 : Int32) (w1 : Int32) (g1 : Int32) (k1 : Int32) (qA : Nat → Int32) (qM : Nat → Int32) (qn : Int32) (qt : Int32) (uA : Nat → Int32) (uM : Nat → Int32) (un : Int32) (ut : Int32) (sF : Nat → Int32) (sk : Int32) (sm : Int32) (st : Nat → Int32) (se : Int32) (fi : Int32) (gr : Int32) (br : Int32) (pu : Int32) (nr : Int32) (R : Int32 × Int32 × Int32) (hf : f_X1_turnDial x1 x2 d0 d1 = some R) : WrI l yX1_turnDial wsX1_turnDial rmX1_turnDial D cI cC (w_grinder cI cC gh a pA pM pn pt d0 w0 g0 k0 d1 w1 g1 k1 qA qM qn qt uA uM un ut sF sk sm st se fi gr br pu nr) (w_grinder cI cC gh a pA pM pn pt R.2.1 w0 g0 k0 R.2.2 w1 g1 k1 qA qM qn qt uA uM un ut sF sk sm st se fi gr br pu nr) [.ref gh, .int x1, .int x2] R.1 := by
  refine en_W (cc := cX1_turnDial) (n := 5) (by decide) rfl (Nat.le_of_ble_eq_true rfl) ?_
  intro p e s m args below meth c Q AA ls hx hb hml hown hts hK hN hP hD hS hl ret
  have hown : s.vm.findClass RX1 = some m.cls := hown
  have hF : FX p m c cX1_turnDial 5 s args wsX1_turnDial RX1 D cI cC := ⟨⟨hx, hb, hml, hown, hts⟩, hK, hN⟩
  have hl : lv_has ls 5 [(0, .ref gh), (1, .int x1), (2, .int x2)] := hl
  have k1_ := hts (.constant RX1 93 (-1000001)) (List.mem_of_getElem? (i := 1) rfl)
  have k2_ := hts (.static yX7_isZeroOrOne) (List.mem_of_getElem? (i := 2) rfl)
  have k3_ := hts (.initialized RX7) (List.mem_of_getElem? (i := 3) rfl)
  have n0_ : ∀ w ∈ wsX00, w ∈ wsX1_turnDial := fun _ h => List.mem_cons_of_mem _ (List.mem_append_left _ (List.mem_append_right _ h))
  rw [f_X1_turnDial] at hf
  obtain ⟨H, hH⟩ : ∃ z : Heap, z = s.heap := ⟨_, rfl⟩
  obtain ⟨locs, hL⟩ : ∃ z : List Loc, z = [] := ⟨_, rfl⟩
  replace hP := hH ▸ hP
  replace hS : va_S AA s.heap H locs := by rw [hH, hL]; exact hS
  suffices hgoal : W p l e rmX1_turnDial s m args below meth c H locs 0 0 Q (F0 m 0 ls []) by rw [hH, hL] at hgoal; exact hgoal
  clear hH hL
  refine lv_iload_n hx hb dX1_turnDial_0 rfl (lv_at hl 1 rfl) ?_
  obtain ⟨q1, hq1, hf⟩ := ob hf
  refine cl_RN (As := [.int x1]) (rest := []) hF hP hD (c_X7_isZeroOrOne x1 q1 hq1) ⟨va_cnB 1 hts gX1_turnDial_X7_isZeroOrOne_n89 rfl rfl rfl (hN.nw 29 rfl) k3_ (by decide +kernel) ⟨(Nat.le_of_ble_eq_true rfl), (Nat.le_of_ble_eq_true rfl)⟩, k2_, trivial⟩ [] rfl (by decide +kernel) rfl rfl hl.1 (Nat.le_of_ble_eq_true rfl) dX1_turnDial_1 ⟨Nat.zero_le _, Nat.zero_le _⟩ ?_
  refine lv_if_eq (tgt := 18) hx hb dX1_turnDial_4 (by decide) (fun hc2 => ?_) (fun hc2 => ?_)
  · replace hf := it hc2 hf
    refine lv_ldc hx hb hown k1_ dX1_turnDial_18 ?_
    obtain rfl := Option.some.inj hf
    exact ret 20 ls _ H locs dX1_turnDial_20 rfl rfl hP hS
  · replace hf := ie hc2 hf
    refine lv_iload_n hx hb dX1_turnDial_7 rfl (lv_at hl 2 rfl) ?_
    refine lv_iconst (v := (1 : Int32)) hx hb dX1_turnDial_8 (by decide) ?_
    refine lv_icmp_lt (tgt := 18) hx hb dX1_turnDial_9 (by decide) (fun hc3 => ?_) (fun hc3 => ?_)
    · replace hf := it hc3 hf
      refine lv_ldc hx hb hown k1_ dX1_turnDial_18 ?_
      obtain rfl := Option.some.inj hf
      exact ret 20 ls _ H locs dX1_turnDial_20 rfl rfl hP hS
    · replace hf := ie hc3 hf
      refine lv_iload_n hx hb dX1_turnDial_12 rfl (lv_at hl 2 rfl) ?_
      refine lv_bipush (v := (60 : Int32)) hx hb dX1_turnDial_13 (by decide) ?_
      refine lv_icmp_le (tgt := 21) hx hb dX1_turnDial_15 (by decide) (fun hc4 => ?_) (fun hc4 => ?_)
      · replace hf := it hc4 hf
        refine lv_aload_n hx hb dX1_turnDial_21 rfl (lv_at hl 0 rfl) ?_
        refine lv_iload_n hx hb dX1_turnDial_22 rfl (lv_at hl 1 rfl) ?_
        by_cases hc5 : x1 = 0
        · replace hf := it hc5 hf
          refine cl_AV (As := [.int x1]) (rest := []) hF hP hD (c_X1_burrNumbered_0 gh a x1 pA pM pn pt d0 w0 g0 k0 d1 w1 g1 k1 qA qM qn qt uA uM un ut sF sk sm st se fi gr br pu nr hc5) (cwV 1 hts gX1_turnDial_X1_burrNumbered rfl rfl rfl (by decide +kernel) ⟨(Nat.le_of_ble_eq_true rfl), (Nat.le_of_ble_eq_true rfl)⟩) [0, 1, 2, 3, 4, 5, 6, 7, 8, 9, 10, 11, 12, 13, 14, 15] rfl (by decide +kernel) (va_recv hK hP (ci := 1) (q0 := 0) rfl rfl) rfl rfl hl.1 (Nat.le_of_ble_eq_true rfl) dX1_turnDial_23 ⟨Nat.zero_le _, Nat.zero_le _⟩ ?_
          refine lv_astore_n (lv' := [(3, .ref (a 5)), (0, .ref gh), (1, .int x1), (2, .int x2)]) hx hb dX1_turnDial_26 rfl hl (by decide) rfl (fun ls hl => ?_)
          refine lv_aload_n hx hb dX1_turnDial_27 rfl (lv_at hl 0 rfl) ?_
          refine va_getN hx hb hts n0_ hown hK hP 5 rfl rfl 0 (Nat.le_of_ble_eq_true rfl) (hN.get 4 rfl) (fun _ h => h) rfl dX1_turnDial_28 ?_
          refine lv_istore (lv' := [(4, .int d0), (3, .ref (a 5)), (0, .ref gh), (1, .int x1), (2, .int x2)]) hx hb dX1_turnDial_31 hl (by decide) rfl (fun ls hl => ?_)
          refine lv_aload_n hx hb dX1_turnDial_33 rfl (lv_at hl 1 rfl) ?_
          refine lv_iload_n hx hb dX1_turnDial_34 rfl (lv_at hl 4 rfl) ?_
          refine va_putN hx hb hts n0_ tyX0 tyX0_ok nmX0 hown hK hP hD hS 5 rfl rfl 0 (Nat.le_of_ble_eq_true rfl) (hN.get 4 rfl) (fun _ h => h) rfl (v := .int x2) (tyX0_ok 0 (Nat.le_of_ble_eq_true rfl)) rfl rfl (Nat.le_of_ble_eq_true rfl) dX1_turnDial_35 (fun H locs hP hD hS => ?_)
          have hP : va_P D vwCl (w_grinder cI cC gh a pA pM pn pt x2 w0 g0 k0 d1 w1 g1 k1 qA qM qn qt uA uM un ut sF sk sm st se fi gr br pu nr) H := hP
          have hD : va_D AA (w_grinder cI cC gh a pA pM pn pt x2 w0 g0 k0 d1 w1 g1 k1 qA qM qn qt uA uM un ut sF sk sm st se fi gr br pu nr) := hD
          refine lv_iload hx hb dX1_turnDial_38 (lv_at hl 0 rfl) ?_
          obtain rfl := Option.some.inj hf
          exact ret 40 ls _ H locs dX1_turnDial_40 rfl rfl hP hS
        · replace hf := ie hc5 hf
          refine cl_AV (As := [.int x1]) (rest := []) hF hP hD (c_X1_burrNumbered_1 gh a x1 pA pM pn pt d0 w0 g0 k0 d1 w1 g1 k1 qA qM qn qt uA uM un ut sF sk sm st se fi gr br pu nr hc5) (cwV 1 hts gX1_turnDial_X1_burrNumbered rfl rfl rfl (by decide +kernel) ⟨(Nat.le_of_ble_eq_true rfl), (Nat.le_of_ble_eq_true rfl)⟩) [0, 1, 2, 3, 4, 5, 6, 7, 8, 9, 10, 11, 12, 13, 14, 15] rfl (by decide +kernel) (va_recv hK hP (ci := 1) (q0 := 0) rfl rfl) rfl rfl hl.1 (Nat.le_of_ble_eq_true rfl) dX1_turnDial_23 ⟨Nat.zero_le _, Nat.zero_le _⟩ ?_
          refine lv_astore_n (lv' := [(3, .ref (a 6)), (0, .ref gh), (1, .int x1), (2, .int x2)]) hx hb dX1_turnDial_26 rfl hl (by decide) rfl (fun ls hl => ?_)
          refine lv_aload_n hx hb dX1_turnDial_27 rfl (lv_at hl 0 rfl) ?_
          refine va_getN hx hb hts n0_ hown hK hP 6 rfl rfl 0 (Nat.le_of_ble_eq_true rfl) (hN.get 4 rfl) (fun _ h => h) rfl dX1_turnDial_28 ?_
          refine lv_istore (lv' := [(4, .int d1), (3, .ref (a 6)), (0, .ref gh), (1, .int x1), (2, .int x2)]) hx hb dX1_turnDial_31 hl (by decide) rfl (fun ls hl => ?_)
          refine lv_aload_n hx hb dX1_turnDial_33 rfl (lv_at hl 1 rfl) ?_
          refine lv_iload_n hx hb dX1_turnDial_34 rfl (lv_at hl 4 rfl) ?_
          refine va_putN hx hb hts n0_ tyX0 tyX0_ok nmX0 hown hK hP hD hS 6 rfl rfl 0 (Nat.le_of_ble_eq_true rfl) (hN.get 4 rfl) (fun _ h => h) rfl (v := .int x2) (tyX0_ok 0 (Nat.le_of_ble_eq_true rfl)) rfl rfl (Nat.le_of_ble_eq_true rfl) dX1_turnDial_35 (fun H locs hP hD hS => ?_)
          have hP : va_P D vwCl (w_grinder cI cC gh a pA pM pn pt d0 w0 g0 k0 x2 w1 g1 k1 qA qM qn qt uA uM un ut sF sk sm st se fi gr br pu nr) H := hP
          have hD : va_D AA (w_grinder cI cC gh a pA pM pn pt d0 w0 g0 k0 x2 w1 g1 k1 qA qM qn qt uA uM un ut sF sk sm st se fi gr br pu nr) := hD
          refine lv_iload hx hb dX1_turnDial_38 (lv_at hl 0 rfl) ?_
          obtain rfl := Option.some.inj hf
          exact ret 40 ls _ H locs dX1_turnDial_40 rfl rfl hP hS
      · replace hf := ie hc4 hf
        refine lv_ldc hx hb hown k1_ dX1_turnDial_18 ?_
        obtain rfl := Option.some.inj hf
        exact ret 20 ls _ H locs dX1_turnDial_20 rfl rfl hP hS
abbrev rmX1_emptyChute : Room := { frames := 2, cells := 0, slots := 0, locals := 20 }
set_option maxHeartbeats 4000000 in
set_option maxRecDepth 100000 in
theorem c_X1_emptyChute (gh : Nat) (a : Nat → Nat) (pA : Nat → Int32) (pM : Nat → Int32) (pn : Int32) (pt : Int32) (d0 : Int32) (w0 : Int32) (g0 : Int32) (k0 : Int32) (d1 : Int32) (w1 : Int32) (g1 : Int32) (k1 : Int32) (qA : Nat → Int32) (qM : Nat → Int32) (qn : Int32) (qt : Int32) (uA : Nat → Int32) (uM : Nat → Int32) (un : Int32) (ut : Int32) (sF : Nat → Int32) (sk : Int32) (sm : Int32) (st : Nat → Int32) (se : Int32) (fi : Int32) (gr : Int32) (br : Int32) (pu : Int32) (nr : Int32) (R : Int32 × Int32 × Int32 × Int32) (hf : f_X1_emptyChute qn qt pu = some R) : WrI l yX1_emptyChute wsX1_emptyChute rmX1_emptyChute D cI cC (w_grinder cI cC gh a pA pM pn pt d0 w0 g0 k0 d1 w1 g1 k1 qA qM qn qt uA uM un ut sF sk sm st se fi gr br pu nr) (w_grinder cI cC gh a pA pM pn pt d0 w0 g0 k0 d1 w1 g1 k1 qA qM R.2.1 R.2.2.1 uA uM un ut sF sk sm st se fi gr br R.2.2.2 nr) [.ref gh] R.1 := by
  refine en_W (cc := cX1_emptyChute) (n := 2) (by decide) rfl (Nat.le_of_ble_eq_true rfl) ?_
  intro p e s m args below meth c Q AA ls hx hb hml hown hts hK hN hP hD hS hl ret
  have hown : s.vm.findClass RX1 = some m.cls := hown
  have hF : FX p m c cX1_emptyChute 2 s args wsX1_emptyChute RX1 D cI cC := ⟨⟨hx, hb, hml, hown, hts⟩, hK, hN⟩
  have hl : lv_has ls 2 [(0, .ref gh)] := hl
  have k1_ := hts (.fieldLink RX1 33 "DriftGrinders$Grinder" "chute" "LDriftGrinders$Row;") (List.mem_of_getElem? (i := 1) rfl)
  have k2_ := hts (.fieldLink RX1 83 "DriftGrinders$Grinder" "purged" "I") (List.mem_of_getElem? (i := 2) rfl)
  have n1_ : ∀ w ∈ wsX10, w ∈ wsX1_emptyChute := fun _ h => List.mem_cons_of_mem _ (List.mem_append_left _ (List.mem_append_right _ h))
  have n5_ : ∀ w ∈ wsX50, w ∈ wsX1_emptyChute := fun _ h => List.mem_cons_of_mem _ (List.mem_append_right _ h)
  rw [f_X1_emptyChute] at hf
  obtain ⟨H, hH⟩ : ∃ z : Heap, z = s.heap := ⟨_, rfl⟩
  obtain ⟨locs, hL⟩ : ∃ z : List Loc, z = [] := ⟨_, rfl⟩
  replace hP := hH ▸ hP
  replace hS : va_S AA s.heap H locs := by rw [hH, hL]; exact hS
  suffices hgoal : W p l e rmX1_emptyChute s m args below meth c H locs 0 0 Q (F0 m 0 ls []) by rw [hH, hL] at hgoal; exact hgoal
  clear hH hL
  refine lv_aload_n hx hb dX1_emptyChute_0 rfl (lv_at hl 0 rfl) ?_
  refine va_get hx hb hts n1_ hown hK hP 0 rfl rfl 3 (Nat.le_of_ble_eq_true rfl) k1_ (fun _ h => h) rfl dX1_emptyChute_1 ?_
  refine va_getN hx hb hts n5_ hown hK hP 7 rfl rfl 3 (Nat.le_of_ble_eq_true rfl) (hN.get 3 rfl) (fun _ h => h) rfl dX1_emptyChute_4 ?_
  refine lv_istore_n (lv' := [(1, .int qt), (0, .ref gh)]) hx hb dX1_emptyChute_7 rfl hl (by decide) rfl (fun ls hl => ?_)
  refine lv_aload_n hx hb dX1_emptyChute_8 rfl (lv_at hl 1 rfl) ?_
  refine va_get hx hb hts n1_ hown hK hP 0 rfl rfl 3 (Nat.le_of_ble_eq_true rfl) k1_ (fun _ h => h) rfl dX1_emptyChute_9 ?_
  obtain ⟨q1, hq1, hf⟩ := ob hf
  refine cl_VV (W1 := (w_grinder cI cC gh a pA pM pn pt d0 w0 g0 k0 d1 w1 g1 k1 qA qM q1.1 q1.2 uA uM un ut sF sk sm st se fi gr br pu nr)) (As := []) (rest := []) hF hP hD hS (c_X5_clear (a 7) (a 8) (a 9) 106 qA qM qn qt q1 hq1) (cwV 0 hts gX1_emptyChute_X5_clear rfl rfl rfl (by decide +kernel) ⟨(Nat.le_of_ble_eq_true rfl), (Nat.le_of_ble_eq_true rfl)⟩) [7, 8, 9] rfl (by decide +kernel) (va_recv hK hP (ci := 5) (q0 := 7) rfl rfl) rfl rfl hl.1 (Nat.le_of_ble_eq_true rfl) dX1_emptyChute_12 ⟨Nat.zero_le _, Nat.zero_le _⟩ (hA2 [(a 7), (a 8), (a 9)] rfl rfl) [0, 1, 2, 3, 4, 5, 6, 10, 11, 12, 13, 14, 15] rfl [(gh, .inr (1, [.ref (a 1), .ref (a 5), .ref (a 6), .ref (a 7), .ref (a 10), .ref (a 13), .ref (a 15), .int se, .int fi, .int gr, .int br, .int pu, .int nr])), ((a 1), .inr (3, [.ref (a 2)])), ((a 2), .inr (5, [.ref (a 3), .ref (a 4), .int pn, .int pt])), ((a 3), .inl (cI, 6, .inl pA)), ((a 4), .inl (cI, 6, .inl pM)), ((a 5), .inr (0, [.int d0, .int w0, .int g0, .int k0])), ((a 6), .inr (0, [.int d1, .int w1, .int g1, .int k1])), ((a 10), .inr (5, [.ref (a 11), .ref (a 12), .int un, .int ut])), ((a 11), .inl (cI, 400, .inl uA)), ((a 12), .inl (cI, 400, .inl uM)), ((a 13), .inr (6, [.ref (a 14), .int sk, .int sm])), ((a 14), .inl (cI, 96, .inl sF)), ((a 15), .inl (cI, 6, .inl st))] rfl rfl (nW := 16) rfl (by decide +kernel) (fun H locs hP hD hS => ?_)
  refine lv_aload_n hx hb dX1_emptyChute_15 rfl (lv_at hl 1 rfl) ?_
  refine lv_dup hx hb dX1_emptyChute_16 rfl ?_
  refine va_get hx hb hts n1_ hown hK hP 0 rfl rfl 11 (Nat.le_of_ble_eq_true rfl) k2_ (fun _ h => h) rfl dX1_emptyChute_17 ?_
  refine lv_iload_n hx hb dX1_emptyChute_20 rfl (lv_at hl 0 rfl) ?_
  refine lv_iadd hx hb dX1_emptyChute_21 ?_
  refine lv_topi (fun v2 ev2 => ?_)
  replace hf := lt_e ev2 hf
  refine va_put hx hb hts n1_ tyX1 tyX1_ok nmX1 hown hK hP hD hS 0 rfl rfl 11 (Nat.le_of_ble_eq_true rfl) k2_ (fun _ h => h) rfl (v := .int v2) (tyX1_ok 11 (Nat.le_of_ble_eq_true rfl)) rfl rfl (Nat.le_of_ble_eq_true rfl) dX1_emptyChute_22 (fun H locs hP hD hS => ?_)
  have hP : va_P D vwCl (w_grinder cI cC gh a pA pM pn pt d0 w0 g0 k0 d1 w1 g1 k1 qA qM q1.1 q1.2 uA uM un ut sF sk sm st se fi gr br v2 nr) H := hP
  have hD : va_D AA (w_grinder cI cC gh a pA pM pn pt d0 w0 g0 k0 d1 w1 g1 k1 qA qM q1.1 q1.2 uA uM un ut sF sk sm st se fi gr br v2 nr) := hD
  refine lv_iload_n hx hb dX1_emptyChute_25 rfl (lv_at hl 0 rfl) ?_
  obtain rfl := Option.some.inj hf
  exact ret 26 ls _ H locs dX1_emptyChute_26 rfl rfl hP hS
end
