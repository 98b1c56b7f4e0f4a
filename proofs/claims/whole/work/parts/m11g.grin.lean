section
variable {l : Launch} {D : va_G} {cI cC : ClassId}

abbrev rmX1_awayAtDial_0 : Room := { frames := 2, cells := 0, slots := 0, locals := 42 }
set_option maxHeartbeats 4000000 in
set_option maxRecDepth 100000 in
theorem c_X1_awayAtDial_0 (gh : Nat) (a : Nat → Nat) (x1 : Int32) (x3 : Int32) (pA : Nat → Int32) (pM : Nat → Int32) (pn : Int32) (pt : Int32) (d0 : Int32) (w0 : Int32) (g0 : Int32) (k0 : Int32) (d1 : Int32) (w1 : Int32) (g1 : Int32) (k1 : Int32) (qA : Nat → Int32) (qM : Nat → Int32) (qn : Int32) (qt : Int32) (uA : Nat → Int32) (uM : Nat → Int32) (un : Int32) (ut : Int32) (sF : Nat → Int32) (sk : Int32) (sm : Int32) (st : Nat → Int32) (se : Int32) (fi : Int32) (gr : Int32) (br : Int32) (pu : Int32) (nr : Int32) (R : Int32) (hf : f_X1_awayAtDial_0 x1 x3 w0 st = some R) : RdI l yX1_awayAtDial wsX1_awayAtDial rmX1_awayAtDial_0 D cI cC (w_grinder cI cC gh a pA pM pn pt d0 w0 g0 k0 d1 w1 g1 k1 qA qM qn qt uA uM un ut sF sk sm st se fi gr br pu nr) [.ref gh, .int x1, .ref (a 5), .int x3] R := by
  refine en_R (cc := cX1_awayAtDial) (n := 4) (by decide) rfl (Nat.le_of_ble_eq_true rfl) ?_
  intro p e s m args below meth c Q AA ls hx hb hml hown hts hK hN hP hD hl ret
  have hown : s.vm.findClass RX1 = some m.cls := hown
  have hF : FX p m c cX1_awayAtDial 4 s args wsX1_awayAtDial RX1 D cI cC := ⟨⟨hx, hb, hml, hown, hts⟩, hK, hN⟩
  have hl : lv_has ls 4 [(0, .ref gh), (1, .int x1), (2, .ref (a 5)), (3, .int x3)] := hl
  have k1_ := hts (.fieldLink RX1 47 "DriftGrinders$Grinder" "settings" "[I") (List.mem_of_getElem? (i := 1) rfl)
  have k20_ := hts (.static yX7_flowOf) (List.mem_of_getElem? (i := 20) rfl)
  have k21_ := hts (.initialized RX7) (List.mem_of_getElem? (i := 21) rfl)
  have k2_ := hts (.methodLink RX1 166 Lib.Math.abs.name) (List.mem_of_getElem? (i := 2) rfl)
  have k3_ := hts (.static Lib.Math.abs.name) (List.mem_of_getElem? (i := 3) rfl)
  have k4_ := hts (.initialized "java/lang/Math") (List.mem_of_getElem? (i := 4) rfl)
  have k5_ := hts (.code Lib.Math.abs.name Lib.Math.abs.code 1 (some .int)) (List.mem_of_getElem? (i := 5) rfl)
  have n1_ : ∀ w ∈ wsX10, w ∈ wsX1_awayAtDial := fun _ h => List.mem_cons_of_mem _ (List.mem_append_left _ (List.mem_append_right _ h))
  rw [f_X1_awayAtDial_0] at hf
  refine lv_aload_n hx hb dX1_awayAtDial_0 rfl (lv_at hl 0 rfl) ?_
  refine lv_iload_n hx hb dX1_awayAtDial_1 rfl (lv_at hl 3 rfl) ?_
  obtain ⟨q1, hq1, hf⟩ := ob hf
  refine cl_RV (As := [.int x3]) (rest := []) hF hP hD (c_X1_hardnessOf gh a x3 pA pM pn pt d0 w0 g0 k0 d1 w1 g1 k1 qA qM qn qt uA uM un ut sF sk sm st se fi gr br pu nr q1 hq1) (cwV 1 hts gX1_awayAtDial_X1_hardnessOf rfl rfl rfl (by decide +kernel) ⟨(Nat.le_of_ble_eq_true rfl), (Nat.le_of_ble_eq_true rfl)⟩) [0, 1, 2, 3, 4, 5, 6, 7, 8, 9, 10, 11, 12, 13, 14, 15] rfl (by decide +kernel) (va_recv hK hP (ci := 1) (q0 := 0) rfl rfl) rfl rfl hl.1 (Nat.le_of_ble_eq_true rfl) dX1_awayAtDial_2 ⟨Nat.zero_le _, Nat.zero_le _⟩ ?_
  refine lv_aload_n hx hb dX1_awayAtDial_5 rfl (lv_at hl 2 rfl) ?_
  refine lv_iload_n hx hb dX1_awayAtDial_6 rfl (lv_at hl 1 rfl) ?_
  obtain ⟨q2, hq2, hf⟩ := ob hf
  refine cl_RV (As := [.int x1]) (rest := [.int q1]) hF hP hD (c_X0_gapAt (a 5) x1 d0 w0 g0 k0 q2 hq2) (cwV 1 hts gX1_awayAtDial_X0_gapAt rfl rfl rfl (by decide +kernel) ⟨(Nat.le_of_ble_eq_true rfl), (Nat.le_of_ble_eq_true rfl)⟩) [5] rfl (by decide +kernel) (va_recv hK hP (ci := 0) (q0 := 5) rfl rfl) rfl rfl hl.1 (Nat.le_of_ble_eq_true rfl) dX1_awayAtDial_7 ⟨Nat.zero_le _, Nat.zero_le _⟩ ?_
  obtain ⟨q3, hq3, hf⟩ := ob hf
  refine cl_RN (As := [.int q1, .int q2]) (rest := []) hF hP hD (c_X7_flowOf q1 q2 q3 hq3) ⟨va_cnB 2 hts gX1_awayAtDial_X7_flowOf_n191 rfl rfl rfl (hN.nw 30 rfl) k21_ (by decide +kernel) ⟨(Nat.le_of_ble_eq_true rfl), (Nat.le_of_ble_eq_true rfl)⟩, k20_, trivial⟩ [] rfl (by decide +kernel) rfl rfl hl.1 (Nat.le_of_ble_eq_true rfl) dX1_awayAtDial_10 ⟨Nat.zero_le _, Nat.zero_le _⟩ ?_
  refine lv_aload_n hx hb dX1_awayAtDial_13 rfl (lv_at hl 0 rfl) ?_
  refine va_get hx hb hts n1_ hown hK hP 0 rfl rfl 6 (Nat.le_of_ble_eq_true rfl) k1_ (fun _ h => h) rfl dX1_awayAtDial_14 ?_
  refine lv_iconst (v := (0 : Int32)) hx hb dX1_awayAtDial_17 (by decide) ?_
  refine va_iald hx hb hK hP 15 0 rfl rfl (show ¬ ((0 : Int32) < 0 ∨ 6 ≤ (0 : Int32).toNatClampNeg) by decide) dX1_awayAtDial_18 ?_
  refine lv_isub hx hb dX1_awayAtDial_19 ?_
  refine va_mabs hx hb (hml.trans hl.1.symm) hown k2_ k3_ k4_ k5_ (Nat.le_of_ble_eq_true rfl) (Nat.le_of_ble_eq_true rfl) (Nat.zero_le _) (Nat.zero_le _) dX1_awayAtDial_20 ?_
  refine lv_topi (fun v4 ev4 => ?_)
  replace hf := lt_e ev4 hf
  obtain rfl := Option.some.inj hf
  exact ret 23 ls _ dX1_awayAtDial_23 rfl rfl
abbrev rmX1_awayAtDial_1 : Room := { frames := 2, cells := 0, slots := 0, locals := 42 }
set_option maxHeartbeats 4000000 in
set_option maxRecDepth 100000 in
theorem c_X1_awayAtDial_1 (gh : Nat) (a : Nat → Nat) (x1 : Int32) (x3 : Int32) (pA : Nat → Int32) (pM : Nat → Int32) (pn : Int32) (pt : Int32) (d0 : Int32) (w0 : Int32) (g0 : Int32) (k0 : Int32) (d1 : Int32) (w1 : Int32) (g1 : Int32) (k1 : Int32) (qA : Nat → Int32) (qM : Nat → Int32) (qn : Int32) (qt : Int32) (uA : Nat → Int32) (uM : Nat → Int32) (un : Int32) (ut : Int32) (sF : Nat → Int32) (sk : Int32) (sm : Int32) (st : Nat → Int32) (se : Int32) (fi : Int32) (gr : Int32) (br : Int32) (pu : Int32) (nr : Int32) (R : Int32) (hf : f_X1_awayAtDial_1 x1 x3 w1 st = some R) : RdI l yX1_awayAtDial wsX1_awayAtDial rmX1_awayAtDial_1 D cI cC (w_grinder cI cC gh a pA pM pn pt d0 w0 g0 k0 d1 w1 g1 k1 qA qM qn qt uA uM un ut sF sk sm st se fi gr br pu nr) [.ref gh, .int x1, .ref (a 6), .int x3] R := by
  refine en_R (cc := cX1_awayAtDial) (n := 4) (by decide) rfl (Nat.le_of_ble_eq_true rfl) ?_
  intro p e s m args below meth c Q AA ls hx hb hml hown hts hK hN hP hD hl ret
  have hown : s.vm.findClass RX1 = some m.cls := hown
  have hF : FX p m c cX1_awayAtDial 4 s args wsX1_awayAtDial RX1 D cI cC := ⟨⟨hx, hb, hml, hown, hts⟩, hK, hN⟩
  have hl : lv_has ls 4 [(0, .ref gh), (1, .int x1), (2, .ref (a 6)), (3, .int x3)] := hl
  have k1_ := hts (.fieldLink RX1 47 "DriftGrinders$Grinder" "settings" "[I") (List.mem_of_getElem? (i := 1) rfl)
  have k20_ := hts (.static yX7_flowOf) (List.mem_of_getElem? (i := 20) rfl)
  have k21_ := hts (.initialized RX7) (List.mem_of_getElem? (i := 21) rfl)
  have k2_ := hts (.methodLink RX1 166 Lib.Math.abs.name) (List.mem_of_getElem? (i := 2) rfl)
  have k3_ := hts (.static Lib.Math.abs.name) (List.mem_of_getElem? (i := 3) rfl)
  have k4_ := hts (.initialized "java/lang/Math") (List.mem_of_getElem? (i := 4) rfl)
  have k5_ := hts (.code Lib.Math.abs.name Lib.Math.abs.code 1 (some .int)) (List.mem_of_getElem? (i := 5) rfl)
  have n1_ : ∀ w ∈ wsX10, w ∈ wsX1_awayAtDial := fun _ h => List.mem_cons_of_mem _ (List.mem_append_left _ (List.mem_append_right _ h))
  rw [f_X1_awayAtDial_1] at hf
  refine lv_aload_n hx hb dX1_awayAtDial_0 rfl (lv_at hl 0 rfl) ?_
  refine lv_iload_n hx hb dX1_awayAtDial_1 rfl (lv_at hl 3 rfl) ?_
  obtain ⟨q1, hq1, hf⟩ := ob hf
  refine cl_RV (As := [.int x3]) (rest := []) hF hP hD (c_X1_hardnessOf gh a x3 pA pM pn pt d0 w0 g0 k0 d1 w1 g1 k1 qA qM qn qt uA uM un ut sF sk sm st se fi gr br pu nr q1 hq1) (cwV 1 hts gX1_awayAtDial_X1_hardnessOf rfl rfl rfl (by decide +kernel) ⟨(Nat.le_of_ble_eq_true rfl), (Nat.le_of_ble_eq_true rfl)⟩) [0, 1, 2, 3, 4, 5, 6, 7, 8, 9, 10, 11, 12, 13, 14, 15] rfl (by decide +kernel) (va_recv hK hP (ci := 1) (q0 := 0) rfl rfl) rfl rfl hl.1 (Nat.le_of_ble_eq_true rfl) dX1_awayAtDial_2 ⟨Nat.zero_le _, Nat.zero_le _⟩ ?_
  refine lv_aload_n hx hb dX1_awayAtDial_5 rfl (lv_at hl 2 rfl) ?_
  refine lv_iload_n hx hb dX1_awayAtDial_6 rfl (lv_at hl 1 rfl) ?_
  obtain ⟨q2, hq2, hf⟩ := ob hf
  refine cl_RV (As := [.int x1]) (rest := [.int q1]) hF hP hD (c_X0_gapAt (a 6) x1 d1 w1 g1 k1 q2 hq2) (cwV 1 hts gX1_awayAtDial_X0_gapAt rfl rfl rfl (by decide +kernel) ⟨(Nat.le_of_ble_eq_true rfl), (Nat.le_of_ble_eq_true rfl)⟩) [6] rfl (by decide +kernel) (va_recv hK hP (ci := 0) (q0 := 6) rfl rfl) rfl rfl hl.1 (Nat.le_of_ble_eq_true rfl) dX1_awayAtDial_7 ⟨Nat.zero_le _, Nat.zero_le _⟩ ?_
  obtain ⟨q3, hq3, hf⟩ := ob hf
  refine cl_RN (As := [.int q1, .int q2]) (rest := []) hF hP hD (c_X7_flowOf q1 q2 q3 hq3) ⟨va_cnB 2 hts gX1_awayAtDial_X7_flowOf_n191 rfl rfl rfl (hN.nw 30 rfl) k21_ (by decide +kernel) ⟨(Nat.le_of_ble_eq_true rfl), (Nat.le_of_ble_eq_true rfl)⟩, k20_, trivial⟩ [] rfl (by decide +kernel) rfl rfl hl.1 (Nat.le_of_ble_eq_true rfl) dX1_awayAtDial_10 ⟨Nat.zero_le _, Nat.zero_le _⟩ ?_
  refine lv_aload_n hx hb dX1_awayAtDial_13 rfl (lv_at hl 0 rfl) ?_
  refine va_get hx hb hts n1_ hown hK hP 0 rfl rfl 6 (Nat.le_of_ble_eq_true rfl) k1_ (fun _ h => h) rfl dX1_awayAtDial_14 ?_
  refine lv_iconst (v := (0 : Int32)) hx hb dX1_awayAtDial_17 (by decide) ?_
  refine va_iald hx hb hK hP 15 0 rfl rfl (show ¬ ((0 : Int32) < 0 ∨ 6 ≤ (0 : Int32).toNatClampNeg) by decide) dX1_awayAtDial_18 ?_
  refine lv_isub hx hb dX1_awayAtDial_19 ?_
  refine va_mabs hx hb (hml.trans hl.1.symm) hown k2_ k3_ k4_ k5_ (Nat.le_of_ble_eq_true rfl) (Nat.le_of_ble_eq_true rfl) (Nat.zero_le _) (Nat.zero_le _) dX1_awayAtDial_20 ?_
  refine lv_topi (fun v4 ev4 => ?_)
  replace hf := lt_e ev4 hf
  obtain rfl := Option.some.inj hf
  exact ret 23 ls _ dX1_awayAtDial_23 rfl rfl
abbrev rmX1_nearestDial_0 : Room := { frames := 3, cells := 0, slots := 0, locals := 65 }
set_option maxHeartbeats 4000000 in
set_option maxRecDepth 100000 in
theorem c_X1_nearestDial_0 (gh : Nat) (a : Nat → Nat) (x2 : Int32) (pA : Nat → Int32) (pM : Nat → Int32) (pn : Int32) (pt : Int32) (d0 : Int32) (w0 : Int32) (g0 : Int32) (k0 : Int32) (d1 : Int32) (w1 : Int32) (g1 : Int32) (k1 : Int32) (qA : Nat → Int32) (qM : Nat → Int32) (qn : Int32) (qt : Int32) (uA : Nat → Int32) (uM : Nat → Int32) (un : Int32) (ut : Int32) (sF : Nat → Int32) (sk : Int32) (sm : Int32) (st : Nat → Int32) (se : Int32) (fi : Int32) (gr : Int32) (br : Int32) (pu : Int32) (nr : Int32) (R : Int32) (hf : f_X1_nearestDial_0 x2 w0 st = some R) : RdI l yX1_nearestDial wsX1_nearestDial rmX1_nearestDial_0 D cI cC (w_grinder cI cC gh a pA pM pn pt d0 w0 g0 k0 d1 w1 g1 k1 qA qM qn qt uA uM un ut sF sk sm st se fi gr br pu nr) [.ref gh, .ref (a 5), .int x2] R := by
  refine en_R (cc := cX1_nearestDial) (n := 5) (by decide) rfl (Nat.le_of_ble_eq_true rfl) ?_
  intro p e s m args below meth c Q AA ls hx hb hml hown hts hK hN hP hD hl ret
  have hown : s.vm.findClass RX1 = some m.cls := hown
  have hF : FX p m c cX1_nearestDial 5 s args wsX1_nearestDial RX1 D cI cC := ⟨⟨hx, hb, hml, hown, hts⟩, hK, hN⟩
  have hl : lv_has ls 5 [(0, .ref gh), (1, .ref (a 5)), (2, .int x2)] := hl
  have L5 : ∀ n5 : Nat, ∀ (y2_5 : Int32) (y3_5 : Int32) (y4_5 : Int32), ∀ ls : Array Slot, lv_has ls 5 [(0, .ref gh), (1, .ref (a 5)), (2, .int y2_5), (3, .int y3_5), (4, .int y4_5)] → f_X1_nearestDial_0_L5 w0 st y2_5 n5 y3_5 y4_5 = some R → W p l e rmX1_nearestDial_0 s m args below meth c s.heap [] 0 0 Q (F0 m 5 ls []) := by
    intro n5
    induction n5 with
    | zero => intro y2_5 y3_5 y4_5 ls hl hf; rw [f_X1_nearestDial_0_L5] at hf; cases hf
    | succ n5 IH5 =>
      intro y2_5 y3_5 y4_5 ls hl hf
      have J33 : ∀ (y3_33 : Int32) (y4_33 : Int32), ∀ ls : Array Slot, lv_has ls 5 [(0, .ref gh), (1, .ref (a 5)), (2, .int y2_5), (3, .int y3_33), (4, .int y4_33)] → f_X1_nearestDial_0_J33 (f_X1_nearestDial_0_L5 w0 st y2_5 n5) w0 st y2_5 y3_33 y4_33 = some R → W p l e rmX1_nearestDial_0 s m args below meth c s.heap [] 0 0 Q (F0 m 33 ls []) := by
        intro y3_33 y4_33 ls hl hf
        rw [f_X1_nearestDial_0_J33] at hf
        obtain ⟨v5, ev5⟩ : ∃ z : Int32, z = y4_33 + (1 : Int32) := ⟨_, rfl⟩
        replace hf := lt_e ev5 hf
        refine lv_iinc (v := v5) (lv' := [(4, .int v5), (0, .ref gh), (1, .ref (a 5)), (2, .int y2_5), (3, .int y3_33)]) hx hb dX1_nearestDial_33 hl (k := 4) rfl (by rw [ev5]; rfl) (by decide) rfl (fun ls hl => ?_)
        refine lv_goto (tgt := 5) hx hb dX1_nearestDial_36 (by decide) ?_
        exact IH5 y2_5 y3_33 v5 ls (lv_sub hl [1, 2, 3, 4, 0] rfl) hf
      rw [f_X1_nearestDial_0_L5] at hf
      refine lv_iload hx hb dX1_nearestDial_5 (lv_at hl 4 rfl) ?_
      refine lv_bipush (v := (60 : Int32)) hx hb dX1_nearestDial_7 (by decide) ?_
      refine lv_icmp_gt (tgt := 39) hx hb dX1_nearestDial_9 (by decide) (fun hc1 => ?_) (fun hc1 => ?_)
      · replace hf := it hc1 hf
        refine lv_iload_n hx hb dX1_nearestDial_39 rfl (lv_at hl 3 rfl) ?_
        obtain rfl := Option.some.inj hf
        exact ret 40 ls _ dX1_nearestDial_40 rfl rfl
      · replace hf := ie hc1 hf
        refine lv_aload_n hx hb dX1_nearestDial_12 rfl (lv_at hl 0 rfl) ?_
        refine lv_iload hx hb dX1_nearestDial_13 (lv_at hl 4 rfl) ?_
        refine lv_aload_n hx hb dX1_nearestDial_15 rfl (lv_at hl 1 rfl) ?_
        refine lv_iload_n hx hb dX1_nearestDial_16 rfl (lv_at hl 2 rfl) ?_
        obtain ⟨q2, hq2, hf⟩ := ob hf
        refine cl_RV (As := [.int y4_5, .ref (a 5), .int y2_5]) (rest := []) hF hP hD (c_X1_awayAtDial_0 gh a y4_5 y2_5 pA pM pn pt d0 w0 g0 k0 d1 w1 g1 k1 qA qM qn qt uA uM un ut sF sk sm st se fi gr br pu nr q2 hq2) (cwV 3 hts gX1_nearestDial_X1_awayAtDial rfl rfl rfl (by decide +kernel) ⟨(Nat.le_of_ble_eq_true rfl), (Nat.le_of_ble_eq_true rfl)⟩) [0, 1, 2, 3, 4, 5, 6, 7, 8, 9, 10, 11, 12, 13, 14, 15] rfl (by decide +kernel) (va_recv hK hP (ci := 1) (q0 := 0) rfl rfl) rfl rfl hl.1 (Nat.le_of_ble_eq_true rfl) dX1_nearestDial_17 ⟨Nat.zero_le _, Nat.zero_le _⟩ ?_
        refine lv_aload_n hx hb dX1_nearestDial_20 rfl (lv_at hl 0 rfl) ?_
        refine lv_iload_n hx hb dX1_nearestDial_21 rfl (lv_at hl 3 rfl) ?_
        refine lv_aload_n hx hb dX1_nearestDial_22 rfl (lv_at hl 1 rfl) ?_
        refine lv_iload_n hx hb dX1_nearestDial_23 rfl (lv_at hl 2 rfl) ?_
        obtain ⟨q3, hq3, hf⟩ := ob hf
        refine cl_RV (As := [.int y3_5, .ref (a 5), .int y2_5]) (rest := [.int q2]) hF hP hD (c_X1_awayAtDial_0 gh a y3_5 y2_5 pA pM pn pt d0 w0 g0 k0 d1 w1 g1 k1 qA qM qn qt uA uM un ut sF sk sm st se fi gr br pu nr q3 hq3) (cwV 3 hts gX1_nearestDial_X1_awayAtDial rfl rfl rfl (by decide +kernel) ⟨(Nat.le_of_ble_eq_true rfl), (Nat.le_of_ble_eq_true rfl)⟩) [0, 1, 2, 3, 4, 5, 6, 7, 8, 9, 10, 11, 12, 13, 14, 15] rfl (by decide +kernel) (va_recv hK hP (ci := 1) (q0 := 0) rfl rfl) rfl rfl hl.1 (Nat.le_of_ble_eq_true rfl) dX1_nearestDial_24 ⟨Nat.zero_le _, Nat.zero_le _⟩ ?_
        refine lv_icmp_ge (tgt := 33) hx hb dX1_nearestDial_27 (by decide) (fun hc4 => ?_) (fun hc4 => ?_)
        · replace hf := it hc4 hf
          exact J33 y3_5 y4_5 ls (lv_sub hl [0, 1, 2, 3, 4] rfl) hf
        · replace hf := ie hc4 hf
          refine lv_iload hx hb dX1_nearestDial_30 (lv_at hl 4 rfl) ?_
          refine lv_istore_n (lv' := [(3, .int y4_5), (0, .ref gh), (1, .ref (a 5)), (2, .int y2_5), (4, .int y4_5)]) hx hb dX1_nearestDial_32 rfl hl (by decide) rfl (fun ls hl => ?_)
          exact J33 y4_5 y4_5 ls (lv_sub hl [1, 2, 3, 0, 4] rfl) hf
  rw [f_X1_nearestDial_0] at hf
  refine lv_iconst (v := (1 : Int32)) hx hb dX1_nearestDial_0 (by decide) ?_
  refine lv_istore_n (lv' := [(3, .int (1 : Int32)), (0, .ref gh), (1, .ref (a 5)), (2, .int x2)]) hx hb dX1_nearestDial_1 rfl hl (by decide) rfl (fun ls hl => ?_)
  refine lv_iconst (v := (2 : Int32)) hx hb dX1_nearestDial_2 (by decide) ?_
  refine lv_istore (lv' := [(4, .int (2 : Int32)), (3, .int (1 : Int32)), (0, .ref gh), (1, .ref (a 5)), (2, .int x2)]) hx hb dX1_nearestDial_3 hl (by decide) rfl (fun ls hl => ?_)
  exact L5 FU x2 (1 : Int32) (2 : Int32) ls (lv_sub hl [2, 3, 4, 1, 0] rfl) hf
abbrev rmX1_nearestDial_1 : Room := { frames := 3, cells := 0, slots := 0, locals := 65 }
set_option maxHeartbeats 4000000 in
set_option maxRecDepth 100000 in
theorem c_X1_nearestDial_1 (gh : Nat) (a : Nat → Nat) (x2 : Int32) (pA : Nat → Int32) (pM : Nat → Int32) (pn : Int32) (pt : Int32) (d0 : Int32) (w0 : Int32) (g0 : Int32) (k0 : Int32) (d1 : Int32) (w1 : Int32) (g1 : Int32) (k1 : Int32) (qA : Nat → Int32) (qM : Nat → Int32) (qn : Int32) (qt : Int32) (uA : Nat → Int32) (uM : Nat → Int32) (un : Int32) (ut : Int32) (sF : Nat → Int32) (sk : Int32) (sm : Int32) (st : Nat → Int32) (se : Int32) (fi : Int32) (gr : Int32) (br : Int32) (pu : Int32) (nr : Int32) (R : Int32) (hf : f_X1_nearestDial_1 x2 w1 st = some R) : RdI l yX1_nearestDial wsX1_nearestDial rmX1_nearestDial_1 D cI cC (w_grinder cI cC gh a pA pM pn pt d0 w0 g0 k0 d1 w1 g1 k1 qA qM qn qt uA uM un ut sF sk sm st se fi gr br pu nr) [.ref gh, .ref (a 6), .int x2] R := by
  refine en_R (cc := cX1_nearestDial) (n := 5) (by decide) rfl (Nat.le_of_ble_eq_true rfl) ?_
  intro p e s m args below meth c Q AA ls hx hb hml hown hts hK hN hP hD hl ret
  have hown : s.vm.findClass RX1 = some m.cls := hown
  have hF : FX p m c cX1_nearestDial 5 s args wsX1_nearestDial RX1 D cI cC := ⟨⟨hx, hb, hml, hown, hts⟩, hK, hN⟩
  have hl : lv_has ls 5 [(0, .ref gh), (1, .ref (a 6)), (2, .int x2)] := hl
  have L5 : ∀ n5 : Nat, ∀ (y2_5 : Int32) (y3_5 : Int32) (y4_5 : Int32), ∀ ls : Array Slot, lv_has ls 5 [(0, .ref gh), (1, .ref (a 6)), (2, .int y2_5), (3, .int y3_5), (4, .int y4_5)] → f_X1_nearestDial_1_L5 w1 st y2_5 n5 y3_5 y4_5 = some R → W p l e rmX1_nearestDial_1 s m args below meth c s.heap [] 0 0 Q (F0 m 5 ls []) := by
    intro n5
    induction n5 with
    | zero => intro y2_5 y3_5 y4_5 ls hl hf; rw [f_X1_nearestDial_1_L5] at hf; cases hf
    | succ n5 IH5 =>
      intro y2_5 y3_5 y4_5 ls hl hf
      have J33 : ∀ (y3_33 : Int32) (y4_33 : Int32), ∀ ls : Array Slot, lv_has ls 5 [(0, .ref gh), (1, .ref (a 6)), (2, .int y2_5), (3, .int y3_33), (4, .int y4_33)] → f_X1_nearestDial_1_J33 (f_X1_nearestDial_1_L5 w1 st y2_5 n5) w1 st y2_5 y3_33 y4_33 = some R → W p l e rmX1_nearestDial_1 s m args below meth c s.heap [] 0 0 Q (F0 m 33 ls []) := by
        intro y3_33 y4_33 ls hl hf
        rw [f_X1_nearestDial_1_J33] at hf
        obtain ⟨v5, ev5⟩ : ∃ z : Int32, z = y4_33 + (1 : Int32) := ⟨_, rfl⟩
        replace hf := lt_e ev5 hf
        refine lv_iinc (v := v5) (lv' := [(4, .int v5), (0, .ref gh), (1, .ref (a 6)), (2, .int y2_5), (3, .int y3_33)]) hx hb dX1_nearestDial_33 hl (k := 4) rfl (by rw [ev5]; rfl) (by decide) rfl (fun ls hl => ?_)
        refine lv_goto (tgt := 5) hx hb dX1_nearestDial_36 (by decide) ?_
        exact IH5 y2_5 y3_33 v5 ls (lv_sub hl [1, 2, 3, 4, 0] rfl) hf
      rw [f_X1_nearestDial_1_L5] at hf
      refine lv_iload hx hb dX1_nearestDial_5 (lv_at hl 4 rfl) ?_
      refine lv_bipush (v := (60 : Int32)) hx hb dX1_nearestDial_7 (by decide) ?_
      refine lv_icmp_gt (tgt := 39) hx hb dX1_nearestDial_9 (by decide) (fun hc1 => ?_) (fun hc1 => ?_)
      · replace hf := it hc1 hf
        refine lv_iload_n hx hb dX1_nearestDial_39 rfl (lv_at hl 3 rfl) ?_
        obtain rfl := Option.some.inj hf
        exact ret 40 ls _ dX1_nearestDial_40 rfl rfl
      · replace hf := ie hc1 hf
        refine lv_aload_n hx hb dX1_nearestDial_12 rfl (lv_at hl 0 rfl) ?_
        refine lv_iload hx hb dX1_nearestDial_13 (lv_at hl 4 rfl) ?_
        refine lv_aload_n hx hb dX1_nearestDial_15 rfl (lv_at hl 1 rfl) ?_
        refine lv_iload_n hx hb dX1_nearestDial_16 rfl (lv_at hl 2 rfl) ?_
        obtain ⟨q2, hq2, hf⟩ := ob hf
        refine cl_RV (As := [.int y4_5, .ref (a 6), .int y2_5]) (rest := []) hF hP hD (c_X1_awayAtDial_1 gh a y4_5 y2_5 pA pM pn pt d0 w0 g0 k0 d1 w1 g1 k1 qA qM qn qt uA uM un ut sF sk sm st se fi gr br pu nr q2 hq2) (cwV 3 hts gX1_nearestDial_X1_awayAtDial rfl rfl rfl (by decide +kernel) ⟨(Nat.le_of_ble_eq_true rfl), (Nat.le_of_ble_eq_true rfl)⟩) [0, 1, 2, 3, 4, 5, 6, 7, 8, 9, 10, 11, 12, 13, 14, 15] rfl (by decide +kernel) (va_recv hK hP (ci := 1) (q0 := 0) rfl rfl) rfl rfl hl.1 (Nat.le_of_ble_eq_true rfl) dX1_nearestDial_17 ⟨Nat.zero_le _, Nat.zero_le _⟩ ?_
        refine lv_aload_n hx hb dX1_nearestDial_20 rfl (lv_at hl 0 rfl) ?_
        refine lv_iload_n hx hb dX1_nearestDial_21 rfl (lv_at hl 3 rfl) ?_
        refine lv_aload_n hx hb dX1_nearestDial_22 rfl (lv_at hl 1 rfl) ?_
        refine lv_iload_n hx hb dX1_nearestDial_23 rfl (lv_at hl 2 rfl) ?_
        obtain ⟨q3, hq3, hf⟩ := ob hf
        refine cl_RV (As := [.int y3_5, .ref (a 6), .int y2_5]) (rest := [.int q2]) hF hP hD (c_X1_awayAtDial_1 gh a y3_5 y2_5 pA pM pn pt d0 w0 g0 k0 d1 w1 g1 k1 qA qM qn qt uA uM un ut sF sk sm st se fi gr br pu nr q3 hq3) (cwV 3 hts gX1_nearestDial_X1_awayAtDial rfl rfl rfl (by decide +kernel) ⟨(Nat.le_of_ble_eq_true rfl), (Nat.le_of_ble_eq_true rfl)⟩) [0, 1, 2, 3, 4, 5, 6, 7, 8, 9, 10, 11, 12, 13, 14, 15] rfl (by decide +kernel) (va_recv hK hP (ci := 1) (q0 := 0) rfl rfl) rfl rfl hl.1 (Nat.le_of_ble_eq_true rfl) dX1_nearestDial_24 ⟨Nat.zero_le _, Nat.zero_le _⟩ ?_
        refine lv_icmp_ge (tgt := 33) hx hb dX1_nearestDial_27 (by decide) (fun hc4 => ?_) (fun hc4 => ?_)
        · replace hf := it hc4 hf
          exact J33 y3_5 y4_5 ls (lv_sub hl [0, 1, 2, 3, 4] rfl) hf
        · replace hf := ie hc4 hf
          refine lv_iload hx hb dX1_nearestDial_30 (lv_at hl 4 rfl) ?_
          refine lv_istore_n (lv' := [(3, .int y4_5), (0, .ref gh), (1, .ref (a 6)), (2, .int y2_5), (4, .int y4_5)]) hx hb dX1_nearestDial_32 rfl hl (by decide) rfl (fun ls hl => ?_)
          exact J33 y4_5 y4_5 ls (lv_sub hl [1, 2, 3, 0, 4] rfl) hf
  rw [f_X1_nearestDial_1] at hf
  refine lv_iconst (v := (1 : Int32)) hx hb dX1_nearestDial_0 (by decide) ?_
  refine lv_istore_n (lv' := [(3, .int (1 : Int32)), (0, .ref gh), (1, .ref (a 6)), (2, .int x2)]) hx hb dX1_nearestDial_1 rfl hl (by decide) rfl (fun ls hl => ?_)
  refine lv_iconst (v := (2 : Int32)) hx hb dX1_nearestDial_2 (by decide) ?_
  refine lv_istore (lv' := [(4, .int (2 : Int32)), (3, .int (1 : Int32)), (0, .ref gh), (1, .ref (a 6)), (2, .int x2)]) hx hb dX1_nearestDial_3 hl (by decide) rfl (fun ls hl => ?_)
  exact L5 FU x2 (1 : Int32) (2 : Int32) ls (lv_sub hl [2, 3, 4, 1, 0] rfl) hf
abbrev rmX1_secondsToCool_0 : Room := { frames := 3, cells := 0, slots := 0, locals := 43 }
set_option maxHeartbeats 4000000 in
set_option maxRecDepth 100000 in
theorem c_X1_secondsToCool_0 (gh : Nat) (a : Nat → Nat) (x2 : Int32) (pA : Nat → Int32) (pM : Nat → Int32) (pn : Int32) (pt : Int32) (d0 : Int32) (w0 : Int32) (g0 : Int32) (k0 : Int32) (d1 : Int32) (w1 : Int32) (g1 : Int32) (k1 : Int32) (qA : Nat → Int32) (qM : Nat → Int32) (qn : Int32) (qt : Int32) (uA : Nat → Int32) (uM : Nat → Int32) (un : Int32) (ut : Int32) (sF : Nat → Int32) (sk : Int32) (sm : Int32) (st : Nat → Int32) (se : Int32) (fi : Int32) (gr : Int32) (br : Int32) (pu : Int32) (nr : Int32) (R : Int32) (hf : f_X1_secondsToCool_0 x2 w0 se = some R) : RdI l yX1_secondsToCool wsX1_secondsToCool rmX1_secondsToCool_0 D cI cC (w_grinder cI cC gh a pA pM pn pt d0 w0 g0 k0 d1 w1 g1 k1 qA qM qn qt uA uM un ut sF sk sm st se fi gr br pu nr) [.ref gh, .ref (a 5), .int x2] R := by
  refine en_R (cc := cX1_secondsToCool) (n := 4) (by decide) rfl (Nat.le_of_ble_eq_true rfl) ?_
  intro p e s m args below meth c Q AA ls hx hb hml hown hts hK hN hP hD hl ret
  have hown : s.vm.findClass RX1 = some m.cls := hown
  have hF : FX p m c cX1_secondsToCool 4 s args wsX1_secondsToCool RX1 D cI cC := ⟨⟨hx, hb, hml, hown, hts⟩, hK, hN⟩
  have hl : lv_has ls 4 [(0, .ref gh), (1, .ref (a 5)), (2, .int x2)] := hl
  have k1_ := hts (.fieldLink RX1 70 "DriftGrinders$Grinder" "second" "I") (List.mem_of_getElem? (i := 1) rfl)
  have n1_ : ∀ w ∈ wsX10, w ∈ wsX1_secondsToCool := fun _ h => List.mem_cons_of_mem _ (List.mem_append_left _ (List.mem_append_right _ h))
  rw [f_X1_secondsToCool_0] at hf
  refine lv_aload_n hx hb dX1_secondsToCool_0 rfl (lv_at hl 1 rfl) ?_
  refine lv_iload_n hx hb dX1_secondsToCool_1 rfl (lv_at hl 2 rfl) ?_
  obtain ⟨q1, hq1, hf⟩ := ob hf
  refine cl_RV (As := [.int x2]) (rest := []) hF hP hD (c_X0_coolingsTo (a 5) x2 d0 w0 g0 k0 q1 hq1) (cwV 1 hts gX1_secondsToCool_X0_coolingsTo rfl rfl rfl (by decide +kernel) ⟨(Nat.le_of_ble_eq_true rfl), (Nat.le_of_ble_eq_true rfl)⟩) [5] rfl (by decide +kernel) (va_recv hK hP (ci := 0) (q0 := 5) rfl rfl) rfl rfl hl.1 (Nat.le_of_ble_eq_true rfl) dX1_secondsToCool_2 ⟨Nat.zero_le _, Nat.zero_le _⟩ ?_
  refine lv_istore_n (lv' := [(3, .int q1), (0, .ref gh), (1, .ref (a 5)), (2, .int x2)]) hx hb dX1_secondsToCool_5 rfl hl (by decide) rfl (fun ls hl => ?_)
  refine lv_iload_n hx hb dX1_secondsToCool_6 rfl (lv_at hl 0 rfl) ?_
  refine lv_iconst (v := (1 : Int32)) hx hb dX1_secondsToCool_7 (by decide) ?_
  refine lv_icmp_ge (tgt := 15) hx hb dX1_secondsToCool_8 (by decide) (fun hc2 => ?_) (fun hc2 => ?_)
  · replace hf := it hc2 hf
    refine lv_iload_n hx hb dX1_secondsToCool_15 rfl (lv_at hl 0 rfl) ?_
    refine lv_bipush (v := (10 : Int32)) hx hb dX1_secondsToCool_16 (by decide) ?_
    refine lv_imul hx hb dX1_secondsToCool_18 ?_
    refine lv_aload_n hx hb dX1_secondsToCool_19 rfl (lv_at hl 1 rfl) ?_
    refine va_get hx hb hts n1_ hown hK hP 0 rfl rfl 7 (Nat.le_of_ble_eq_true rfl) k1_ (fun _ h => h) rfl dX1_secondsToCool_20 ?_
    refine lv_bipush (v := (10 : Int32)) hx hb dX1_secondsToCool_23 (by decide) ?_
    refine lv_irem hx hb dX1_secondsToCool_25 (by decide) ?_
    refine lv_isub hx hb dX1_secondsToCool_26 ?_
    obtain rfl := Option.some.inj hf
    exact ret 27 ls _ dX1_secondsToCool_27 rfl rfl
  · replace hf := ie hc2 hf
    refine lv_iconst (v := (0 : Int32)) hx hb dX1_secondsToCool_11 (by decide) ?_
    refine lv_goto (tgt := 27) hx hb dX1_secondsToCool_12 (by decide) ?_
    obtain rfl := Option.some.inj hf
    exact ret 27 ls _ dX1_secondsToCool_27 rfl rfl
abbrev rmX1_secondsToCool_1 : Room := { frames := 3, cells := 0, slots := 0, locals := 43 }
set_option maxHeartbeats 4000000 in
set_option maxRecDepth 100000 in
theorem c_X1_secondsToCool_1 (gh : Nat) (a : Nat → Nat) (x2 : Int32) (pA : Nat → Int32) (pM : Nat → Int32) (pn : Int32) (pt : Int32) (d0 : Int32) (w0 : Int32) (g0 : Int32) (k0 : Int32) (d1 : Int32) (w1 : Int32) (g1 : Int32) (k1 : Int32) (qA : Nat → Int32) (qM : Nat → Int32) (qn : Int32) (qt : Int32) (uA : Nat → Int32) (uM : Nat → Int32) (un : Int32) (ut : Int32) (sF : Nat → Int32) (sk : Int32) (sm : Int32) (st : Nat → Int32) (se : Int32) (fi : Int32) (gr : Int32) (br : Int32) (pu : Int32) (nr : Int32) (R : Int32) (hf : f_X1_secondsToCool_1 x2 w1 se = some R) : RdI l yX1_secondsToCool wsX1_secondsToCool rmX1_secondsToCool_1 D cI cC (w_grinder cI cC gh a pA pM pn pt d0 w0 g0 k0 d1 w1 g1 k1 qA qM qn qt uA uM un ut sF sk sm st se fi gr br pu nr) [.ref gh, .ref (a 6), .int x2] R := by
  refine en_R (cc := cX1_secondsToCool) (n := 4) (by decide) rfl (Nat.le_of_ble_eq_true rfl) ?_
  intro p e s m args below meth c Q AA ls hx hb hml hown hts hK hN hP hD hl ret
  have hown : s.vm.findClass RX1 = some m.cls := hown
  have hF : FX p m c cX1_secondsToCool 4 s args wsX1_secondsToCool RX1 D cI cC := ⟨⟨hx, hb, hml, hown, hts⟩, hK, hN⟩
  have hl : lv_has ls 4 [(0, .ref gh), (1, .ref (a 6)), (2, .int x2)] := hl
  have k1_ := hts (.fieldLink RX1 70 "DriftGrinders$Grinder" "second" "I") (List.mem_of_getElem? (i := 1) rfl)
  have n1_ : ∀ w ∈ wsX10, w ∈ wsX1_secondsToCool := fun _ h => List.mem_cons_of_mem _ (List.mem_append_left _ (List.mem_append_right _ h))
  rw [f_X1_secondsToCool_1] at hf
  refine lv_aload_n hx hb dX1_secondsToCool_0 rfl (lv_at hl 1 rfl) ?_
  refine lv_iload_n hx hb dX1_secondsToCool_1 rfl (lv_at hl 2 rfl) ?_
  obtain ⟨q1, hq1, hf⟩ := ob hf
  refine cl_RV (As := [.int x2]) (rest := []) hF hP hD (c_X0_coolingsTo (a 6) x2 d1 w1 g1 k1 q1 hq1) (cwV 1 hts gX1_secondsToCool_X0_coolingsTo rfl rfl rfl (by decide +kernel) ⟨(Nat.le_of_ble_eq_true rfl), (Nat.le_of_ble_eq_true rfl)⟩) [6] rfl (by decide +kernel) (va_recv hK hP (ci := 0) (q0 := 6) rfl rfl) rfl rfl hl.1 (Nat.le_of_ble_eq_true rfl) dX1_secondsToCool_2 ⟨Nat.zero_le _, Nat.zero_le _⟩ ?_
  refine lv_istore_n (lv' := [(3, .int q1), (0, .ref gh), (1, .ref (a 6)), (2, .int x2)]) hx hb dX1_secondsToCool_5 rfl hl (by decide) rfl (fun ls hl => ?_)
  refine lv_iload_n hx hb dX1_secondsToCool_6 rfl (lv_at hl 0 rfl) ?_
  refine lv_iconst (v := (1 : Int32)) hx hb dX1_secondsToCool_7 (by decide) ?_
  refine lv_icmp_ge (tgt := 15) hx hb dX1_secondsToCool_8 (by decide) (fun hc2 => ?_) (fun hc2 => ?_)
  · replace hf := it hc2 hf
    refine lv_iload_n hx hb dX1_secondsToCool_15 rfl (lv_at hl 0 rfl) ?_
    refine lv_bipush (v := (10 : Int32)) hx hb dX1_secondsToCool_16 (by decide) ?_
    refine lv_imul hx hb dX1_secondsToCool_18 ?_
    refine lv_aload_n hx hb dX1_secondsToCool_19 rfl (lv_at hl 1 rfl) ?_
    refine va_get hx hb hts n1_ hown hK hP 0 rfl rfl 7 (Nat.le_of_ble_eq_true rfl) k1_ (fun _ h => h) rfl dX1_secondsToCool_20 ?_
    refine lv_bipush (v := (10 : Int32)) hx hb dX1_secondsToCool_23 (by decide) ?_
    refine lv_irem hx hb dX1_secondsToCool_25 (by decide) ?_
    refine lv_isub hx hb dX1_secondsToCool_26 ?_
    obtain rfl := Option.some.inj hf
    exact ret 27 ls _ dX1_secondsToCool_27 rfl rfl
  · replace hf := ie hc2 hf
    refine lv_iconst (v := (0 : Int32)) hx hb dX1_secondsToCool_11 (by decide) ?_
    refine lv_goto (tgt := 27) hx hb dX1_secondsToCool_12 (by decide) ?_
    obtain rfl := Option.some.inj hf
    exact ret 27 ls _ dX1_secondsToCool_27 rfl rfl
abbrev rmX1_staleFor : Room := { frames := 3, cells := 0, slots := 0, locals := 62 }
set_option maxHeartbeats 4000000 in
set_option maxRecDepth 100000 in
theorem c_X1_staleFor (gh : Nat) (a : Nat → Nat) (x1 : Int32) (pA : Nat → Int32) (pM : Nat → Int32) (pn : Int32) (pt : Int32) (d0 : Int32) (w0 : Int32) (g0 : Int32) (k0 : Int32) (d1 : Int32) (w1 : Int32) (g1 : Int32) (k1 : Int32) (qA : Nat → Int32) (qM : Nat → Int32) (qn : Int32) (qt : Int32) (uA : Nat → Int32) (uM : Nat → Int32) (un : Int32) (ut : Int32) (sF : Nat → Int32) (sk : Int32) (sm : Int32) (st : Nat → Int32) (se : Int32) (fi : Int32) (gr : Int32) (br : Int32) (pu : Int32) (nr : Int32) (R : Int32) (hf : f_X1_staleFor x1 pM pn d0 w0 d1 w1 qA qM qn = some R) : RdI l yX1_staleFor wsX1_staleFor rmX1_staleFor D cI cC (w_grinder cI cC gh a pA pM pn pt d0 w0 g0 k0 d1 w1 g1 k1 qA qM qn qt uA uM un ut sF sk sm st se fi gr br pu nr) [.ref gh, .int x1] R := by
  refine en_R (cc := cX1_staleFor) (n := 3) (by decide) rfl (Nat.le_of_ble_eq_true rfl) ?_
  intro p e s m args below meth c Q AA ls hx hb hml hown hts hK hN hP hD hl ret
  have hown : s.vm.findClass RX1 = some m.cls := hown
  have hF : FX p m c cX1_staleFor 3 s args wsX1_staleFor RX1 D cI cC := ⟨⟨hx, hb, hml, hown, hts⟩, hK, hN⟩
  have hl : lv_has ls 3 [(0, .ref gh), (1, .int x1)] := hl
  have k1_ := hts (.fieldLink RX1 12 "DriftGrinders$Grinder" "hopper" "LDriftGrinders$Hopper;") (List.mem_of_getElem? (i := 1) rfl)
  have k2_ := hts (.constant RX1 107 (-1000002)) (List.mem_of_getElem? (i := 2) rfl)
  have k3_ := hts (.fieldLink RX1 33 "DriftGrinders$Grinder" "chute" "LDriftGrinders$Row;") (List.mem_of_getElem? (i := 3) rfl)
  have k43_ := hts (.static yX7_markOf) (List.mem_of_getElem? (i := 43) rfl)
  have k44_ := hts (.initialized RX7) (List.mem_of_getElem? (i := 44) rfl)
  have n1_ : ∀ w ∈ wsX10, w ∈ wsX1_staleFor := fun _ h => List.mem_cons_of_mem _ (List.mem_append_left _ (List.mem_append_left _ (List.mem_append_left _ (List.mem_append_right _ h))))
  rw [f_X1_staleFor] at hf
  refine lv_aload_n hx hb dX1_staleFor_0 rfl (lv_at hl 0 rfl) ?_
  refine va_get hx hb hts n1_ hown hK hP 0 rfl rfl 0 (Nat.le_of_ble_eq_true rfl) k1_ (fun _ h => h) rfl dX1_staleFor_1 ?_
  obtain ⟨q1, hq1, hf⟩ := ob hf
  refine cl_RV (As := []) (rest := []) hF hP hD (c_X3_isEmpty (a 1) (a 2) (a 3) (a 4) 6 pA pM pn pt q1 hq1) (cwV 0 hts gX1_staleFor_X3_isEmpty rfl rfl rfl (by decide +kernel) ⟨(Nat.le_of_ble_eq_true rfl), (Nat.le_of_ble_eq_true rfl)⟩) [1, 2, 3, 4] rfl (by decide +kernel) (va_recv hK hP (ci := 3) (q0 := 1) rfl rfl) rfl rfl hl.1 (Nat.le_of_ble_eq_true rfl) dX1_staleFor_4 ⟨Nat.zero_le _, Nat.zero_le _⟩ ?_
  refine lv_if_eq (tgt := 13) hx hb dX1_staleFor_7 (by decide) (fun hc2 => ?_) (fun hc2 => ?_)
  · replace hf := it hc2 hf
    refine lv_aload_n hx hb dX1_staleFor_13 rfl (lv_at hl 0 rfl) ?_
    refine va_get hx hb hts n1_ hown hK hP 0 rfl rfl 0 (Nat.le_of_ble_eq_true rfl) k1_ (fun _ h => h) rfl dX1_staleFor_14 ?_
    obtain ⟨q3, hq3, hf⟩ := ob hf
    refine cl_RV (As := []) (rest := []) hF hP hD (c_X3_firstKind (a 1) (a 2) (a 3) (a 4) 6 pA pM pn pt q3 hq3) (cwV 0 hts gX1_staleFor_X3_firstKind rfl rfl rfl (by decide +kernel) ⟨(Nat.le_of_ble_eq_true rfl), (Nat.le_of_ble_eq_true rfl)⟩) [1, 2, 3, 4] rfl (by decide +kernel) (va_recv hK hP (ci := 3) (q0 := 1) rfl rfl) rfl rfl hl.1 (Nat.le_of_ble_eq_true rfl) dX1_staleFor_17 ⟨Nat.zero_le _, Nat.zero_le _⟩ ?_
    refine lv_iload_n hx hb dX1_staleFor_20 rfl (lv_at hl 1 rfl) ?_
    refine lv_aload_n hx hb dX1_staleFor_21 rfl (lv_at hl 0 rfl) ?_
    refine lv_iload_n hx hb dX1_staleFor_22 rfl (lv_at hl 1 rfl) ?_
    by_cases hc4 : x1 = 0
    · replace hf := it hc4 hf
      refine cl_AV (As := [.int x1]) (rest := [.int x1, .int q3]) hF hP hD (c_X1_burrNumbered_0 gh a x1 pA pM pn pt d0 w0 g0 k0 d1 w1 g1 k1 qA qM qn qt uA uM un ut sF sk sm st se fi gr br pu nr hc4) (cwV 1 hts gX1_staleFor_X1_burrNumbered rfl rfl rfl (by decide +kernel) ⟨(Nat.le_of_ble_eq_true rfl), (Nat.le_of_ble_eq_true rfl)⟩) [0, 1, 2, 3, 4, 5, 6, 7, 8, 9, 10, 11, 12, 13, 14, 15] rfl (by decide +kernel) (va_recv hK hP (ci := 1) (q0 := 0) rfl rfl) rfl rfl hl.1 (Nat.le_of_ble_eq_true rfl) dX1_staleFor_23 ⟨Nat.zero_le _, Nat.zero_le _⟩ ?_
      obtain ⟨q5, hq5, hf⟩ := ob hf
      refine cl_RV (As := []) (rest := [.int x1, .int q3]) hF hP hD (c_X0_gap (a 5) d0 w0 g0 k0 q5 hq5) (cwV 0 hts gX1_staleFor_X0_gap rfl rfl rfl (by decide +kernel) ⟨(Nat.le_of_ble_eq_true rfl), (Nat.le_of_ble_eq_true rfl)⟩) [5] rfl (by decide +kernel) (va_recv hK hP (ci := 0) (q0 := 5) rfl rfl) rfl rfl hl.1 (Nat.le_of_ble_eq_true rfl) dX1_staleFor_26 ⟨Nat.zero_le _, Nat.zero_le _⟩ ?_
      obtain ⟨q6, hq6, hf⟩ := ob hf
      refine cl_RN (As := [.int q3, .int x1, .int q5]) (rest := []) hF hP hD (c_X7_markOf q3 x1 q5 q6 hq6) ⟨va_cnB 3 hts gX1_staleFor_X7_markOf_n224 rfl rfl rfl (hN.nw 32 rfl) k44_ (by decide +kernel) ⟨(Nat.le_of_ble_eq_true rfl), (Nat.le_of_ble_eq_true rfl)⟩, k43_, trivial⟩ [] rfl (by decide +kernel) rfl rfl hl.1 (Nat.le_of_ble_eq_true rfl) dX1_staleFor_29 ⟨Nat.zero_le _, Nat.zero_le _⟩ ?_
      refine lv_istore_n (lv' := [(2, .int q6), (0, .ref gh), (1, .int x1)]) hx hb dX1_staleFor_32 rfl hl (by decide) rfl (fun ls hl => ?_)
      refine lv_aload_n hx hb dX1_staleFor_33 rfl (lv_at hl 1 rfl) ?_
      refine va_get hx hb hts n1_ hown hK hP 0 rfl rfl 3 (Nat.le_of_ble_eq_true rfl) k3_ (fun _ h => h) rfl dX1_staleFor_34 ?_
      refine lv_iload_n hx hb dX1_staleFor_37 rfl (lv_at hl 0 rfl) ?_
      obtain ⟨q7, hq7, hf⟩ := ob hf
      refine cl_RV (As := [.int q6]) (rest := []) hF hP hD (c_X5_amountUpToLastUnlike (a 7) (a 8) (a 9) 106 q6 qA qM qn qt q7 hq7) (cwV 1 hts gX1_staleFor_X5_amountUpToLastUnlike rfl rfl rfl (by decide +kernel) ⟨(Nat.le_of_ble_eq_true rfl), (Nat.le_of_ble_eq_true rfl)⟩) [7, 8, 9] rfl (by decide +kernel) (va_recv hK hP (ci := 5) (q0 := 7) rfl rfl) rfl rfl hl.1 (Nat.le_of_ble_eq_true rfl) dX1_staleFor_38 ⟨Nat.zero_le _, Nat.zero_le _⟩ ?_
      obtain rfl := Option.some.inj hf
      exact ret 41 ls _ dX1_staleFor_41 rfl rfl
    · replace hf := ie hc4 hf
      refine cl_AV (As := [.int x1]) (rest := [.int x1, .int q3]) hF hP hD (c_X1_burrNumbered_1 gh a x1 pA pM pn pt d0 w0 g0 k0 d1 w1 g1 k1 qA qM qn qt uA uM un ut sF sk sm st se fi gr br pu nr hc4) (cwV 1 hts gX1_staleFor_X1_burrNumbered rfl rfl rfl (by decide +kernel) ⟨(Nat.le_of_ble_eq_true rfl), (Nat.le_of_ble_eq_true rfl)⟩) [0, 1, 2, 3, 4, 5, 6, 7, 8, 9, 10, 11, 12, 13, 14, 15] rfl (by decide +kernel) (va_recv hK hP (ci := 1) (q0 := 0) rfl rfl) rfl rfl hl.1 (Nat.le_of_ble_eq_true rfl) dX1_staleFor_23 ⟨Nat.zero_le _, Nat.zero_le _⟩ ?_
      obtain ⟨q8, hq8, hf⟩ := ob hf
      refine cl_RV (As := []) (rest := [.int x1, .int q3]) hF hP hD (c_X0_gap (a 6) d1 w1 g1 k1 q8 hq8) (cwV 0 hts gX1_staleFor_X0_gap rfl rfl rfl (by decide +kernel) ⟨(Nat.le_of_ble_eq_true rfl), (Nat.le_of_ble_eq_true rfl)⟩) [6] rfl (by decide +kernel) (va_recv hK hP (ci := 0) (q0 := 6) rfl rfl) rfl rfl hl.1 (Nat.le_of_ble_eq_true rfl) dX1_staleFor_26 ⟨Nat.zero_le _, Nat.zero_le _⟩ ?_
      obtain ⟨q9, hq9, hf⟩ := ob hf
      refine cl_RN (As := [.int q3, .int x1, .int q8]) (rest := []) hF hP hD (c_X7_markOf q3 x1 q8 q9 hq9) ⟨va_cnB 3 hts gX1_staleFor_X7_markOf_n224 rfl rfl rfl (hN.nw 32 rfl) k44_ (by decide +kernel) ⟨(Nat.le_of_ble_eq_true rfl), (Nat.le_of_ble_eq_true rfl)⟩, k43_, trivial⟩ [] rfl (by decide +kernel) rfl rfl hl.1 (Nat.le_of_ble_eq_true rfl) dX1_staleFor_29 ⟨Nat.zero_le _, Nat.zero_le _⟩ ?_
      refine lv_istore_n (lv' := [(2, .int q9), (0, .ref gh), (1, .int x1)]) hx hb dX1_staleFor_32 rfl hl (by decide) rfl (fun ls hl => ?_)
      refine lv_aload_n hx hb dX1_staleFor_33 rfl (lv_at hl 1 rfl) ?_
      refine va_get hx hb hts n1_ hown hK hP 0 rfl rfl 3 (Nat.le_of_ble_eq_true rfl) k3_ (fun _ h => h) rfl dX1_staleFor_34 ?_
      refine lv_iload_n hx hb dX1_staleFor_37 rfl (lv_at hl 0 rfl) ?_
      obtain ⟨q10, hq10, hf⟩ := ob hf
      refine cl_RV (As := [.int q9]) (rest := []) hF hP hD (c_X5_amountUpToLastUnlike (a 7) (a 8) (a 9) 106 q9 qA qM qn qt q10 hq10) (cwV 1 hts gX1_staleFor_X5_amountUpToLastUnlike rfl rfl rfl (by decide +kernel) ⟨(Nat.le_of_ble_eq_true rfl), (Nat.le_of_ble_eq_true rfl)⟩) [7, 8, 9] rfl (by decide +kernel) (va_recv hK hP (ci := 5) (q0 := 7) rfl rfl) rfl rfl hl.1 (Nat.le_of_ble_eq_true rfl) dX1_staleFor_38 ⟨Nat.zero_le _, Nat.zero_le _⟩ ?_
      obtain rfl := Option.some.inj hf
      exact ret 41 ls _ dX1_staleFor_41 rfl rfl
  · replace hf := ie hc2 hf
    refine lv_ldc hx hb hown k2_ dX1_staleFor_10 ?_
    obtain rfl := Option.some.inj hf
    exact ret 12 ls _ dX1_staleFor_12 rfl rfl
end
