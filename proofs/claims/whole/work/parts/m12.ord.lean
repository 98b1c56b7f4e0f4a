section
variable {l : Launch} {D : va_G} {cI cC : ClassId}

def w_orders (cI cC : ClassId) (h0 : Nat) (h1 : Nat) (sg : Nat → Int32) (oL : Int32) (oA : Int32) (oC : Int32) (oF : Int32) (oS : Int32) (oD : Int32) (oP : Int32) (oR : Int32) (oU : Int32) : va_W := [(h0, .inr (4, [.ref h1, .int oL, .int oA, .int oC, .int oF, .int oS, .int oD, .int oP, .int oR, .int oU])), (h1, .inl (cC, 60, .inl sg))]
abbrev rmX4_append : Room := { frames := 1, cells := 0, slots := 0, locals := 0 }
set_option maxHeartbeats 4000000 in
set_option maxRecDepth 100000 in
theorem c_X4_append (h0 : Nat) (h1 : Nat) (x1 : Int32) (sg : Nat → Int32) (oL : Int32) (oA : Int32) (oC : Int32) (oF : Int32) (oS : Int32) (oD : Int32) (oP : Int32) (oR : Int32) (oU : Int32) (R : Int32 × (Nat → Int32) × Int32) (hf : f_X4_append x1 sg oL = some R) : WrI l yX4_append wsX4_append rmX4_append D cI cC (w_orders cI cC h0 h1 sg oL oA oC oF oS oD oP oR oU) (w_orders cI cC h0 h1 R.2.1 R.2.2 oA oC oF oS oD oP oR oU) [.ref h0, .int x1] R.1 := by
  refine en_W (cc := cX4_append) (n := 2) (by decide) rfl (Nat.le_of_ble_eq_true rfl) ?_
  intro p e s m args below meth c Q AA ls hx hb hml hown hts hK hN hP hD hS hl ret
  have hown : s.vm.findClass RX4 = some m.cls := hown
  have hF : FX p m c cX4_append 2 s args wsX4_append RX4 D cI cC := ⟨⟨hx, hb, hml, hown, hts⟩, hK, hN⟩
  have hl : lv_has ls 2 [(0, .ref h0), (1, .int x1)] := hl
  have k1_ := hts (.fieldLink RX4 15 "DriftGrinders$Orders" "length" "I") (List.mem_of_getElem? (i := 1) rfl)
  have k2_ := hts (.constant RX4 19 (-1000003)) (List.mem_of_getElem? (i := 2) rfl)
  have k3_ := hts (.fieldLink RX4 9 "DriftGrinders$Orders" "signs" "[C") (List.mem_of_getElem? (i := 3) rfl)
  have n4_ : ∀ w ∈ wsX40, w ∈ wsX4_append := fun _ h => List.mem_cons_of_mem _ (List.mem_append_right _ h)
  rw [f_X4_append] at hf
  obtain ⟨H, hH⟩ : ∃ z : Heap, z = s.heap := ⟨_, rfl⟩
  obtain ⟨locs, hL⟩ : ∃ z : List Loc, z = [] := ⟨_, rfl⟩
  replace hP := hH ▸ hP
  replace hS : va_S AA s.heap H locs := by rw [hH, hL]; exact hS
  suffices hgoal : W p l e rmX4_append s m args below meth c H locs 0 0 Q (F0 m 0 ls []) by rw [hH, hL] at hgoal; exact hgoal
  clear hH hL
  refine lv_aload_n hx hb dX4_append_0 rfl (lv_at hl 0 rfl) ?_
  refine va_get hx hb hts n4_ hown hK hP 0 rfl rfl 1 (Nat.le_of_ble_eq_true rfl) k1_ (fun _ h => h) rfl dX4_append_1 ?_
  refine lv_if_lt (tgt := 16) hx hb dX4_append_4 (by decide) (fun hc1 => ?_) (fun hc1 => ?_)
  · replace hf := it hc1 hf
    refine lv_ldc hx hb hown k2_ dX4_append_16 ?_
    obtain rfl := Option.some.inj hf
    exact ret 18 ls _ H locs dX4_append_18 rfl rfl hP hS
  · replace hf := ie hc1 hf
    refine lv_aload_n hx hb dX4_append_7 rfl (lv_at hl 0 rfl) ?_
    refine va_get hx hb hts n4_ hown hK hP 0 rfl rfl 1 (Nat.le_of_ble_eq_true rfl) k1_ (fun _ h => h) rfl dX4_append_8 ?_
    refine lv_bipush (v := (60 : Int32)) hx hb dX4_append_11 (by decide) ?_
    refine lv_icmp_lt (tgt := 19) hx hb dX4_append_13 (by decide) (fun hc2 => ?_) (fun hc2 => ?_)
    · replace hf := it hc2 hf
      refine lv_aload_n hx hb dX4_append_19 rfl (lv_at hl 0 rfl) ?_
      refine va_get hx hb hts n4_ hown hK hP 0 rfl rfl 0 (Nat.le_of_ble_eq_true rfl) k3_ (fun _ h => h) rfl dX4_append_20 ?_
      refine lv_aload_n hx hb dX4_append_23 rfl (lv_at hl 0 rfl) ?_
      refine va_get hx hb hts n4_ hown hK hP 0 rfl rfl 1 (Nat.le_of_ble_eq_true rfl) k1_ (fun _ h => h) rfl dX4_append_24 ?_
      refine lv_iload_n hx hb dX4_append_27 rfl (lv_at hl 1 rfl) ?_
      obtain ⟨hg3, hf⟩ := gd_s hf
      refine x_cast hx hb hK hP hD hS 1 1 rfl rfl hg3 dX4_append_28 (fun Z4 H locs eZ4 hP hD hS => ?_)
      replace hf := lt_e eZ4 hf
      have hP : va_P D vwCl (w_orders cI cC h0 h1 Z4 oL oA oC oF oS oD oP oR oU) H := hP
      have hD : va_D AA (w_orders cI cC h0 h1 Z4 oL oA oC oF oS oD oP oR oU) := hD
      refine lv_aload_n hx hb dX4_append_29 rfl (lv_at hl 0 rfl) ?_
      refine lv_dup hx hb dX4_append_30 rfl ?_
      refine va_get hx hb hts n4_ hown hK hP 0 rfl rfl 1 (Nat.le_of_ble_eq_true rfl) k1_ (fun _ h => h) rfl dX4_append_31 ?_
      refine lv_iconst (v := (1 : Int32)) hx hb dX4_append_34 (by decide) ?_
      refine lv_iadd hx hb dX4_append_35 ?_
      refine lv_topi (fun v5 ev5 => ?_)
      replace hf := lt_e ev5 hf
      refine va_put hx hb hts n4_ tyX4 tyX4_ok nmX4 hown hK hP hD hS 0 rfl rfl 1 (Nat.le_of_ble_eq_true rfl) k1_ (fun _ h => h) rfl (v := .int v5) (tyX4_ok 1 (Nat.le_of_ble_eq_true rfl)) rfl rfl (Nat.le_of_ble_eq_true rfl) dX4_append_36 (fun H locs hP hD hS => ?_)
      have hP : va_P D vwCl (w_orders cI cC h0 h1 Z4 v5 oA oC oF oS oD oP oR oU) H := hP
      have hD : va_D AA (w_orders cI cC h0 h1 Z4 v5 oA oC oF oS oD oP oR oU) := hD
      refine lv_aload_n hx hb dX4_append_39 rfl (lv_at hl 0 rfl) ?_
      refine va_get hx hb hts n4_ hown hK hP 0 rfl rfl 1 (Nat.le_of_ble_eq_true rfl) k1_ (fun _ h => h) rfl dX4_append_40 ?_
      obtain rfl := Option.some.inj hf
      exact ret 43 ls _ H locs dX4_append_43 rfl rfl hP hS
    · replace hf := ie hc2 hf
      refine lv_ldc hx hb hown k2_ dX4_append_16 ?_
      obtain rfl := Option.some.inj hf
      exact ret 18 ls _ H locs dX4_append_18 rfl rfl hP hS
abbrev rmX4_hasFault : Room := { frames := 1, cells := 0, slots := 0, locals := 0 }
set_option maxHeartbeats 4000000 in
set_option maxRecDepth 100000 in
theorem c_X4_hasFault (h0 : Nat) (h1 : Nat) (sg : Nat → Int32) (oL : Int32) (oA : Int32) (oC : Int32) (oF : Int32) (oS : Int32) (oD : Int32) (oP : Int32) (oR : Int32) (oU : Int32) (R : Int32) (hf : f_X4_hasFault oR = some R) : RdI l yX4_hasFault wsX4_hasFault rmX4_hasFault D cI cC (w_orders cI cC h0 h1 sg oL oA oC oF oS oD oP oR oU) [.ref h0] R := by
  refine en_R (cc := cX4_hasFault) (n := 1) (by decide) rfl (Nat.le_of_ble_eq_true rfl) ?_
  intro p e s m args below meth c Q AA ls hx hb hml hown hts hK hN hP hD hl ret
  have hown : s.vm.findClass RX4 = some m.cls := hown
  have hF : FX p m c cX4_hasFault 1 s args wsX4_hasFault RX4 D cI cC := ⟨⟨hx, hb, hml, hown, hts⟩, hK, hN⟩
  have hl : lv_has ls 1 [(0, .ref h0)] := hl
  have k1_ := hts (.fieldLink RX4 20 "DriftGrinders$Orders" "faultReason" "I") (List.mem_of_getElem? (i := 1) rfl)
  have n4_ : ∀ w ∈ wsX40, w ∈ wsX4_hasFault := fun _ h => List.mem_cons_of_mem _ (List.mem_append_right _ h)
  rw [f_X4_hasFault] at hf
  refine lv_aload_n hx hb dX4_hasFault_0 rfl (lv_at hl 0 rfl) ?_
  refine va_get hx hb hts n4_ hown hK hP 0 rfl rfl 8 (Nat.le_of_ble_eq_true rfl) k1_ (fun _ h => h) rfl dX4_hasFault_1 ?_
  refine lv_if_eq (tgt := 11) hx hb dX4_hasFault_4 (by decide) (fun hc1 => ?_) (fun hc1 => ?_)
  · replace hf := it hc1 hf
    refine lv_iconst (v := (0 : Int32)) hx hb dX4_hasFault_11 (by decide) ?_
    obtain rfl := Option.some.inj hf
    exact ret 12 ls _ dX4_hasFault_12 (by decide) rfl
  · replace hf := ie hc1 hf
    refine lv_iconst (v := (1 : Int32)) hx hb dX4_hasFault_7 (by decide) ?_
    refine lv_goto (tgt := 12) hx hb dX4_hasFault_8 (by decide) ?_
    obtain rfl := Option.some.inj hf
    exact ret 12 ls _ dX4_hasFault_12 (by decide) rfl
abbrev rmX4_tellFault : Room := { frames := 2, cells := 0, slots := 0, locals := 20 }
set_option maxHeartbeats 4000000 in
set_option maxRecDepth 100000 in
theorem c_X4_tellFault (h0 : Nat) (h1 : Nat) (x1 : Int32) (sg : Nat → Int32) (oL : Int32) (oA : Int32) (oC : Int32) (oF : Int32) (oS : Int32) (oD : Int32) (oP : Int32) (oR : Int32) (oU : Int32) (R : Int32) (hf : f_X4_tellFault x1 oP oR oU = some R) : RdI l yX4_tellFault wsX4_tellFault rmX4_tellFault D cI cC (w_orders cI cC h0 h1 sg oL oA oC oF oS oD oP oR oU) [.ref h0, .int x1] R := by
  refine en_R (cc := cX4_tellFault) (n := 2) (by decide) rfl (Nat.le_of_ble_eq_true rfl) ?_
  intro p e s m args below meth c Q AA ls hx hb hml hown hts hK hN hP hD hl ret
  have hown : s.vm.findClass RX4 = some m.cls := hown
  have hF : FX p m c cX4_tellFault 2 s args wsX4_tellFault RX4 D cI cC := ⟨⟨hx, hb, hml, hown, hts⟩, hK, hN⟩
  have hl : lv_has ls 2 [(0, .ref h0), (1, .int x1)] := hl
  have k1_ := hts (.constant RX4 27 (-1000004)) (List.mem_of_getElem? (i := 1) rfl)
  have k2_ := hts (.fieldLink RX4 28 "DriftGrinders$Orders" "faultPosition" "I") (List.mem_of_getElem? (i := 2) rfl)
  have k3_ := hts (.fieldLink RX4 20 "DriftGrinders$Orders" "faultReason" "I") (List.mem_of_getElem? (i := 3) rfl)
  have k4_ := hts (.fieldLink RX4 31 "DriftGrinders$Orders" "faultCause" "I") (List.mem_of_getElem? (i := 4) rfl)
  have n4_ : ∀ w ∈ wsX40, w ∈ wsX4_tellFault := fun _ h => List.mem_cons_of_mem _ (List.mem_append_right _ h)
  rw [f_X4_tellFault] at hf
  refine lv_aload_n hx hb dX4_tellFault_0 rfl (lv_at hl 0 rfl) ?_
  obtain ⟨q1, hq1, hf⟩ := ob hf
  refine cl_RV (As := []) (rest := []) hF hP hD (c_X4_hasFault h0 h1 sg oL oA oC oF oS oD oP oR oU q1 hq1) (cwV 0 hts gX4_tellFault_X4_hasFault rfl rfl rfl (by decide +kernel) ⟨(Nat.le_of_ble_eq_true rfl), (Nat.le_of_ble_eq_true rfl)⟩) [0, 1] rfl (by decide +kernel) (va_recv hK hP (ci := 4) (q0 := 0) rfl rfl) rfl rfl hl.1 (Nat.le_of_ble_eq_true rfl) dX4_tellFault_1 ⟨Nat.zero_le _, Nat.zero_le _⟩ ?_
  refine lv_if_ne (tgt := 10) hx hb dX4_tellFault_4 (by decide) (fun hc2 => ?_) (fun hc2 => ?_)
  · replace hf := ie hc2 hf
    refine lv_iload_n hx hb dX4_tellFault_10 rfl (lv_at hl 1 rfl) ?_
    by_cases hc3 : x1 = 0
    · replace hf := it hc3 hf
      refine lv_lookup (off := 25) (tgt := 36) hx hb dX4_tellFault_11 (by decide) (by rw [hc3]; decide) (by decide) ?_
      refine lv_aload_n hx hb dX4_tellFault_36 rfl (lv_at hl 0 rfl) ?_
      refine va_get hx hb hts n4_ hown hK hP 0 rfl rfl 7 (Nat.le_of_ble_eq_true rfl) k2_ (fun _ h => h) rfl dX4_tellFault_37 ?_
      obtain rfl := Option.some.inj hf
      exact ret 40 ls _ dX4_tellFault_40 rfl rfl
    replace hf := ie hc3 hf
    by_cases hc4 : x1 = 1
    · replace hf := it hc4 hf
      refine lv_lookup (off := 30) (tgt := 41) hx hb dX4_tellFault_11 (by decide) (by rw [hc4]; decide) (by decide) ?_
      refine lv_aload_n hx hb dX4_tellFault_41 rfl (lv_at hl 0 rfl) ?_
      refine va_get hx hb hts n4_ hown hK hP 0 rfl rfl 8 (Nat.le_of_ble_eq_true rfl) k3_ (fun _ h => h) rfl dX4_tellFault_42 ?_
      obtain rfl := Option.some.inj hf
      exact ret 45 ls _ dX4_tellFault_45 rfl rfl
    replace hf := ie hc4 hf
    refine lv_lookup (off := 35) (tgt := 46) hx hb dX4_tellFault_11 (by decide) (by show Op.lookupswitch.offset [(0, 25), (1, 30)] 35 x1.toInt = _; rw [lv_osw (a := 0) hc3 rfl, lv_osw (a := 1) hc4 rfl]; rfl) (by decide) ?_
    refine lv_aload_n hx hb dX4_tellFault_46 rfl (lv_at hl 0 rfl) ?_
    refine va_get hx hb hts n4_ hown hK hP 0 rfl rfl 9 (Nat.le_of_ble_eq_true rfl) k4_ (fun _ h => h) rfl dX4_tellFault_47 ?_
    obtain rfl := Option.some.inj hf
    exact ret 50 ls _ dX4_tellFault_50 rfl rfl
  · replace hf := it hc2 hf
    refine lv_ldc hx hb hown k1_ dX4_tellFault_7 ?_
    obtain rfl := Option.some.inj hf
    exact ret 9 ls _ dX4_tellFault_9 rfl rfl
abbrev rmX4_signHere : Room := { frames := 1, cells := 0, slots := 0, locals := 0 }
set_option maxHeartbeats 4000000 in
set_option maxRecDepth 100000 in
theorem c_X4_signHere (h0 : Nat) (h1 : Nat) (sg : Nat → Int32) (oL : Int32) (oA : Int32) (oC : Int32) (oF : Int32) (oS : Int32) (oD : Int32) (oP : Int32) (oR : Int32) (oU : Int32) (R : Int32) (hf : f_X4_signHere sg oL oA = some R) : RdI l yX4_signHere wsX4_signHere rmX4_signHere D cI cC (w_orders cI cC h0 h1 sg oL oA oC oF oS oD oP oR oU) [.ref h0] R := by
  refine en_R (cc := cX4_signHere) (n := 1) (by decide) rfl (Nat.le_of_ble_eq_true rfl) ?_
  intro p e s m args below meth c Q AA ls hx hb hml hown hts hK hN hP hD hl ret
  have hown : s.vm.findClass RX4 = some m.cls := hown
  have hF : FX p m c cX4_signHere 1 s args wsX4_signHere RX4 D cI cC := ⟨⟨hx, hb, hml, hown, hts⟩, hK, hN⟩
  have hl : lv_has ls 1 [(0, .ref h0)] := hl
  have k1_ := hts (.fieldLink RX4 34 "DriftGrinders$Orders" "at" "I") (List.mem_of_getElem? (i := 1) rfl)
  have k2_ := hts (.fieldLink RX4 15 "DriftGrinders$Orders" "length" "I") (List.mem_of_getElem? (i := 2) rfl)
  have k3_ := hts (.fieldLink RX4 9 "DriftGrinders$Orders" "signs" "[C") (List.mem_of_getElem? (i := 3) rfl)
  have n4_ : ∀ w ∈ wsX40, w ∈ wsX4_signHere := fun _ h => List.mem_cons_of_mem _ (List.mem_append_right _ h)
  have J27 : ∀ ls : Array Slot, lv_has ls 1 [] → f_X4_signHere_J27 sg oL oA = some R → W p l e rmX4_signHere s m args below meth c s.heap [] 0 0 Q (F0 m 27 ls []) := by
    intro  ls hl hf
    rw [f_X4_signHere_J27] at hf
    refine lv_iconst (v := (0 : Int32)) hx hb dX4_signHere_27 (by decide) ?_
    refine lv_goto (tgt := 40) hx hb dX4_signHere_28 (by decide) ?_
    obtain rfl := Option.some.inj hf
    exact ret 40 ls _ dX4_signHere_40 (by decide) rfl
  rw [f_X4_signHere] at hf
  refine lv_aload_n hx hb dX4_signHere_0 rfl (lv_at hl 0 rfl) ?_
  refine va_get hx hb hts n4_ hown hK hP 0 rfl rfl 2 (Nat.le_of_ble_eq_true rfl) k1_ (fun _ h => h) rfl dX4_signHere_1 ?_
  refine lv_if_lt (tgt := 27) hx hb dX4_signHere_4 (by decide) (fun hc1 => ?_) (fun hc1 => ?_)
  · replace hf := it hc1 hf
    exact J27  ls (lv_sub hl [] rfl) hf
  · replace hf := ie hc1 hf
    refine lv_aload_n hx hb dX4_signHere_7 rfl (lv_at hl 0 rfl) ?_
    refine va_get hx hb hts n4_ hown hK hP 0 rfl rfl 2 (Nat.le_of_ble_eq_true rfl) k1_ (fun _ h => h) rfl dX4_signHere_8 ?_
    refine lv_aload_n hx hb dX4_signHere_11 rfl (lv_at hl 0 rfl) ?_
    refine va_get hx hb hts n4_ hown hK hP 0 rfl rfl 1 (Nat.le_of_ble_eq_true rfl) k2_ (fun _ h => h) rfl dX4_signHere_12 ?_
    refine lv_icmp_ge (tgt := 27) hx hb dX4_signHere_15 (by decide) (fun hc2 => ?_) (fun hc2 => ?_)
    · replace hf := it hc2 hf
      exact J27  ls (lv_sub hl [] rfl) hf
    · replace hf := ie hc2 hf
      refine lv_aload_n hx hb dX4_signHere_18 rfl (lv_at hl 0 rfl) ?_
      refine va_get hx hb hts n4_ hown hK hP 0 rfl rfl 2 (Nat.le_of_ble_eq_true rfl) k1_ (fun _ h => h) rfl dX4_signHere_19 ?_
      refine lv_bipush (v := (60 : Int32)) hx hb dX4_signHere_22 (by decide) ?_
      refine lv_icmp_lt (tgt := 31) hx hb dX4_signHere_24 (by decide) (fun hc3 => ?_) (fun hc3 => ?_)
      · replace hf := it hc3 hf
        refine lv_aload_n hx hb dX4_signHere_31 rfl (lv_at hl 0 rfl) ?_
        refine va_get hx hb hts n4_ hown hK hP 0 rfl rfl 0 (Nat.le_of_ble_eq_true rfl) k3_ (fun _ h => h) rfl dX4_signHere_32 ?_
        refine lv_aload_n hx hb dX4_signHere_35 rfl (lv_at hl 0 rfl) ?_
        refine va_get hx hb hts n4_ hown hK hP 0 rfl rfl 2 (Nat.le_of_ble_eq_true rfl) k1_ (fun _ h => h) rfl dX4_signHere_36 ?_
        obtain ⟨hg4, hf⟩ := gd_s hf
        refine va_cald hx hb hK hP 1 1 rfl rfl hg4 dX4_signHere_39 ?_
        refine lv_topi (fun v5 ev5 => ?_)
        replace hf := lt_e ev5 hf
        obtain ⟨hg6, hf⟩ := gd_s hf
        obtain rfl := Option.some.inj hf
        exact ret 40 ls _ dX4_signHere_40 (ch_ok hg6).1 rfl
      · replace hf := ie hc3 hf
        exact J27  ls (lv_sub hl [] rfl) hf
abbrev rmX4_passSign : Room := { frames := 2, cells := 0, slots := 0, locals := 20 }
set_option maxHeartbeats 4000000 in
set_option maxRecDepth 100000 in
theorem c_X4_passSign (h0 : Nat) (h1 : Nat) (x1 : Int32) (sg : Nat → Int32) (oL : Int32) (oA : Int32) (oC : Int32) (oF : Int32) (oS : Int32) (oD : Int32) (oP : Int32) (oR : Int32) (oU : Int32) (R : Int32 × Int32) (hf : f_X4_passSign x1 sg oL oA = some R) : WrI l yX4_passSign wsX4_passSign rmX4_passSign D cI cC (w_orders cI cC h0 h1 sg oL oA oC oF oS oD oP oR oU) (w_orders cI cC h0 h1 sg oL R.2 oC oF oS oD oP oR oU) [.ref h0, .int x1] R.1 := by
  refine en_W (cc := cX4_passSign) (n := 2) (by decide) rfl (Nat.le_of_ble_eq_true rfl) ?_
  intro p e s m args below meth c Q AA ls hx hb hml hown hts hK hN hP hD hS hl ret
  have hown : s.vm.findClass RX4 = some m.cls := hown
  have hF : FX p m c cX4_passSign 2 s args wsX4_passSign RX4 D cI cC := ⟨⟨hx, hb, hml, hown, hts⟩, hK, hN⟩
  have hl : lv_has ls 2 [(0, .ref h0), (1, .int x1)] := hl
  have k1_ := hts (.fieldLink RX4 34 "DriftGrinders$Orders" "at" "I") (List.mem_of_getElem? (i := 1) rfl)
  have n4_ : ∀ w ∈ wsX40, w ∈ wsX4_passSign := fun _ h => List.mem_cons_of_mem _ (List.mem_append_right _ h)
  rw [f_X4_passSign] at hf
  obtain ⟨H, hH⟩ : ∃ z : Heap, z = s.heap := ⟨_, rfl⟩
  obtain ⟨locs, hL⟩ : ∃ z : List Loc, z = [] := ⟨_, rfl⟩
  replace hP := hH ▸ hP
  replace hS : va_S AA s.heap H locs := by rw [hH, hL]; exact hS
  suffices hgoal : W p l e rmX4_passSign s m args below meth c H locs 0 0 Q (F0 m 0 ls []) by rw [hH, hL] at hgoal; exact hgoal
  clear hH hL
  refine lv_aload_n hx hb dX4_passSign_0 rfl (lv_at hl 0 rfl) ?_
  obtain ⟨q1, hq1, hf⟩ := ob hf
  refine cl_RV (As := []) (rest := []) hF hP hD (c_X4_signHere h0 h1 sg oL oA oC oF oS oD oP oR oU q1 hq1) (cwV 0 hts gX4_passSign_X4_signHere rfl rfl rfl (by decide +kernel) ⟨(Nat.le_of_ble_eq_true rfl), (Nat.le_of_ble_eq_true rfl)⟩) [0, 1] rfl (by decide +kernel) (va_recv hK hP (ci := 4) (q0 := 0) rfl rfl) rfl rfl hl.1 (Nat.le_of_ble_eq_true rfl) dX4_passSign_1 ⟨Nat.zero_le _, Nat.zero_le _⟩ ?_
  refine lv_iload_n hx hb dX4_passSign_4 rfl (lv_at hl 1 rfl) ?_
  refine lv_icmp_eq (tgt := 10) hx hb dX4_passSign_5 (by decide) (fun hc2 => ?_) (fun hc2 => ?_)
  · replace hf := it hc2 hf
    refine lv_aload_n hx hb dX4_passSign_10 rfl (lv_at hl 0 rfl) ?_
    refine lv_dup hx hb dX4_passSign_11 rfl ?_
    refine va_get hx hb hts n4_ hown hK hP 0 rfl rfl 2 (Nat.le_of_ble_eq_true rfl) k1_ (fun _ h => h) rfl dX4_passSign_12 ?_
    refine lv_iconst (v := (1 : Int32)) hx hb dX4_passSign_15 (by decide) ?_
    refine lv_iadd hx hb dX4_passSign_16 ?_
    refine lv_topi (fun v3 ev3 => ?_)
    replace hf := lt_e ev3 hf
    refine va_put hx hb hts n4_ tyX4 tyX4_ok nmX4 hown hK hP hD hS 0 rfl rfl 2 (Nat.le_of_ble_eq_true rfl) k1_ (fun _ h => h) rfl (v := .int v3) (tyX4_ok 2 (Nat.le_of_ble_eq_true rfl)) rfl rfl (Nat.le_of_ble_eq_true rfl) dX4_passSign_17 (fun H locs hP hD hS => ?_)
    have hP : va_P D vwCl (w_orders cI cC h0 h1 sg oL v3 oC oF oS oD oP oR oU) H := hP
    have hD : va_D AA (w_orders cI cC h0 h1 sg oL v3 oC oF oS oD oP oR oU) := hD
    refine lv_iconst (v := (1 : Int32)) hx hb dX4_passSign_20 (by decide) ?_
    obtain rfl := Option.some.inj hf
    exact ret 21 ls _ H locs dX4_passSign_21 (by decide) rfl hP hS
  · replace hf := ie hc2 hf
    refine lv_iconst (v := (0 : Int32)) hx hb dX4_passSign_8 (by decide) ?_
    obtain rfl := Option.some.inj hf
    exact ret 9 ls _ H locs dX4_passSign_9 (by decide) rfl hP hS
abbrev rmX4_isDigit : Room := { frames := 1, cells := 0, slots := 0, locals := 0 }
set_option maxHeartbeats 4000000 in
set_option maxRecDepth 100000 in
theorem c_X4_isDigit (x0 : Int32) (R : Int32) (hf : f_X4_isDigit x0 = some R) : RdI l yX4_isDigit wsX4_isDigit rmX4_isDigit D cI cC ([] : va_W) [.int x0] R := by
  refine en_R (cc := cX4_isDigit) (n := 1) (by decide) rfl (Nat.le_of_ble_eq_true rfl) ?_
  intro p e s m args below meth c Q AA ls hx hb hml hown hts hK hN hP hD hl ret
  have hown : s.vm.findClass RX4 = some m.cls := hown
  have hF : FX p m c cX4_isDigit 1 s args wsX4_isDigit RX4 D cI cC := ⟨⟨hx, hb, hml, hown, hts⟩, hK, hN⟩
  have hl : lv_has ls 1 [(0, .int x0)] := hl
  rw [f_X4_isDigit] at hf
  refine lv_iload_n hx hb dX4_isDigit_0 rfl (lv_at hl 0 rfl) ?_
  refine lv_bipush (v := (48 : Int32)) hx hb dX4_isDigit_1 (by decide) ?_
  refine lv_icmp_lt (tgt := 16) hx hb dX4_isDigit_3 (by decide) (fun hc1 => ?_) (fun hc1 => ?_)
  · replace hf := it hc1 hf
    refine lv_iconst (v := (0 : Int32)) hx hb dX4_isDigit_16 (by decide) ?_
    obtain rfl := Option.some.inj hf
    exact ret 17 ls _ dX4_isDigit_17 (by decide) rfl
  · replace hf := ie hc1 hf
    refine lv_iload_n hx hb dX4_isDigit_6 rfl (lv_at hl 0 rfl) ?_
    refine lv_bipush (v := (57 : Int32)) hx hb dX4_isDigit_7 (by decide) ?_
    refine lv_icmp_gt (tgt := 16) hx hb dX4_isDigit_9 (by decide) (fun hc2 => ?_) (fun hc2 => ?_)
    · replace hf := it hc2 hf
      refine lv_iconst (v := (0 : Int32)) hx hb dX4_isDigit_16 (by decide) ?_
      obtain rfl := Option.some.inj hf
      exact ret 17 ls _ dX4_isDigit_17 (by decide) rfl
    · replace hf := ie hc2 hf
      refine lv_iconst (v := (1 : Int32)) hx hb dX4_isDigit_12 (by decide) ?_
      refine lv_goto (tgt := 17) hx hb dX4_isDigit_13 (by decide) ?_
      obtain rfl := Option.some.inj hf
      exact ret 17 ls _ dX4_isDigit_17 (by decide) rfl
abbrev rmX4_readNumber : Room := { frames := 2, cells := 0, slots := 0, locals := 21 }
set_option maxHeartbeats 4000000 in
set_option maxRecDepth 100000 in
theorem c_X4_readNumber (h0 : Nat) (h1 : Nat) (sg : Nat → Int32) (oL : Int32) (oA : Int32) (oC : Int32) (oF : Int32) (oS : Int32) (oD : Int32) (oP : Int32) (oR : Int32) (oU : Int32) (R : Int32 × Int32) (hf : f_X4_readNumber sg oL oA = some R) : WrI l yX4_readNumber wsX4_readNumber rmX4_readNumber D cI cC (w_orders cI cC h0 h1 sg oL oA oC oF oS oD oP oR oU) (w_orders cI cC h0 h1 sg oL R.2 oC oF oS oD oP oR oU) [.ref h0] R.1 := by
  refine en_W (cc := cX4_readNumber) (n := 3) (by decide) rfl (Nat.le_of_ble_eq_true rfl) ?_
  intro p e s m args below meth c Q AA ls hx hb hml hown hts hK hN hP hD hS hl ret
  have hown : s.vm.findClass RX4 = some m.cls := hown
  have hF : FX p m c cX4_readNumber 3 s args wsX4_readNumber RX4 D cI cC := ⟨⟨hx, hb, hml, hown, hts⟩, hK, hN⟩
  have hl : lv_has ls 3 [(0, .ref h0)] := hl
  have k1_ := hts (.methodLink RX4 82 Lib.Math.max.name) (List.mem_of_getElem? (i := 1) rfl)
  have k2_ := hts (.static Lib.Math.max.name) (List.mem_of_getElem? (i := 2) rfl)
  have k3_ := hts (.initialized "java/lang/Math") (List.mem_of_getElem? (i := 3) rfl)
  have k4_ := hts (.code Lib.Math.max.name Lib.Math.max.code 2 (some .int)) (List.mem_of_getElem? (i := 4) rfl)
  have k5_ := hts (.fieldLink RX4 34 "DriftGrinders$Orders" "at" "I") (List.mem_of_getElem? (i := 5) rfl)
  have n4_ : ∀ w ∈ wsX40, w ∈ wsX4_readNumber := fun _ h => List.mem_cons_of_mem _ (List.mem_append_right _ h)
  have L4 : ∀ n4 : Nat, ∀ (y1_4 : Int32) (y2_4 : Int32) (oA_4 : Int32) (H : Heap) (locs : List Loc), va_P D vwCl (w_orders cI cC h0 h1 sg oL oA_4 oC oF oS oD oP oR oU) H → va_D AA (w_orders cI cC h0 h1 sg oL oA_4 oC oF oS oD oP oR oU) → va_S AA s.heap H locs → ∀ ls : Array Slot, lv_has ls 3 [(0, .ref h0), (1, .int y1_4), (2, .int y2_4)] → f_X4_readNumber_L4 sg oL n4 y1_4 y2_4 oA_4 = some R → W p l e rmX4_readNumber s m args below meth c H locs 0 0 Q (F0 m 4 ls []) := by
    intro n4
    induction n4 with
    | zero => intro y1_4 y2_4 oA_4 H locs hP hD hS ls hl hf; rw [f_X4_readNumber_L4] at hf; cases hf
    | succ n4 IH4 =>
      intro y1_4 y2_4 oA_4 H locs hP hD hS ls hl hf
      rw [f_X4_readNumber_L4] at hf
      refine lv_iload_n hx hb dX4_readNumber_4 rfl (lv_at hl 2 rfl) ?_
      refine lv_iconst (v := (3 : Int32)) hx hb dX4_readNumber_5 (by decide) ?_
      refine lv_icmp_ge (tgt := 52) hx hb dX4_readNumber_6 (by decide) (fun hc1 => ?_) (fun hc1 => ?_)
      · replace hf := it hc1 hf
        refine lv_iload_n hx hb dX4_readNumber_52 rfl (lv_at hl 1 rfl) ?_
        obtain rfl := Option.some.inj hf
        exact ret 53 ls _ H locs dX4_readNumber_53 rfl rfl hP hS
      · replace hf := ie hc1 hf
        refine lv_aload_n hx hb dX4_readNumber_9 rfl (lv_at hl 0 rfl) ?_
        obtain ⟨q2, hq2, hf⟩ := ob hf
        refine cl_RV (As := []) (rest := []) hF hP hD (c_X4_signHere h0 h1 sg oL oA_4 oC oF oS oD oP oR oU q2 hq2) (cwV 0 hts gX4_readNumber_X4_signHere rfl rfl rfl (by decide +kernel) ⟨(Nat.le_of_ble_eq_true rfl), (Nat.le_of_ble_eq_true rfl)⟩) [0, 1] rfl (by decide +kernel) (va_recv hK hP (ci := 4) (q0 := 0) rfl rfl) rfl rfl hl.1 (Nat.le_of_ble_eq_true rfl) dX4_readNumber_10 ⟨Nat.zero_le _, Nat.zero_le _⟩ ?_
        obtain ⟨q3, hq3, hf⟩ := ob hf
        refine cl_RS (As := [.int q2]) (rest := []) hF hP hD (c_X4_isDigit q2 q3 hq3) (va_cwS 1 hts gX4_readNumber_X4_isDigit rfl rfl rfl (by decide +kernel) ⟨(Nat.le_of_ble_eq_true rfl), (Nat.le_of_ble_eq_true rfl)⟩) [] rfl (by decide +kernel) rfl rfl hl.1 (Nat.le_of_ble_eq_true rfl) dX4_readNumber_13 ⟨Nat.zero_le _, Nat.zero_le _⟩ ?_
        refine lv_if_eq (tgt := 52) hx hb dX4_readNumber_16 (by decide) (fun hc4 => ?_) (fun hc4 => ?_)
        · replace hf := it hc4 hf
          refine lv_iload_n hx hb dX4_readNumber_52 rfl (lv_at hl 1 rfl) ?_
          obtain rfl := Option.some.inj hf
          exact ret 53 ls _ H locs dX4_readNumber_53 rfl rfl hP hS
        · replace hf := ie hc4 hf
          refine lv_iconst (v := (0 : Int32)) hx hb dX4_readNumber_19 (by decide) ?_
          refine lv_iload_n hx hb dX4_readNumber_20 rfl (lv_at hl 1 rfl) ?_
          refine va_mmax hx hb (hml.trans hl.1.symm) hown k1_ k2_ k3_ k4_ (Nat.le_of_ble_eq_true rfl) (Nat.le_of_ble_eq_true rfl) (Nat.zero_le _) (Nat.zero_le _) dX4_readNumber_21 ?_
          refine lv_topi (fun v5 ev5 => ?_)
          replace hf := lt_e ev5 hf
          refine lv_bipush (v := (10 : Int32)) hx hb dX4_readNumber_24 (by decide) ?_
          refine lv_imul hx hb dX4_readNumber_26 ?_
          refine lv_aload_n hx hb dX4_readNumber_27 rfl (lv_at hl 0 rfl) ?_
          obtain ⟨q6, hq6, hf⟩ := ob hf
          refine cl_RV (As := []) (rest := [.int (v5 * (10 : Int32))]) hF hP hD (c_X4_signHere h0 h1 sg oL oA_4 oC oF oS oD oP oR oU q6 hq6) (cwV 0 hts gX4_readNumber_X4_signHere rfl rfl rfl (by decide +kernel) ⟨(Nat.le_of_ble_eq_true rfl), (Nat.le_of_ble_eq_true rfl)⟩) [0, 1] rfl (by decide +kernel) (va_recv hK hP (ci := 4) (q0 := 0) rfl rfl) rfl rfl hl.1 (Nat.le_of_ble_eq_true rfl) dX4_readNumber_28 ⟨Nat.zero_le _, Nat.zero_le _⟩ ?_
          refine lv_bipush (v := (48 : Int32)) hx hb dX4_readNumber_31 (by decide) ?_
          refine lv_isub hx hb dX4_readNumber_33 ?_
          refine lv_iadd hx hb dX4_readNumber_34 ?_
          refine lv_topi (fun v7 ev7 => ?_)
          replace hf := lt_e ev7 hf
          refine lv_istore_n (lv' := [(1, .int v7), (0, .ref h0), (2, .int y2_4)]) hx hb dX4_readNumber_35 rfl hl (by decide) rfl (fun ls hl => ?_)
          refine lv_aload_n hx hb dX4_readNumber_36 rfl (lv_at hl 1 rfl) ?_
          refine lv_dup hx hb dX4_readNumber_37 rfl ?_
          refine va_get hx hb hts n4_ hown hK hP 0 rfl rfl 2 (Nat.le_of_ble_eq_true rfl) k5_ (fun _ h => h) rfl dX4_readNumber_38 ?_
          refine lv_iconst (v := (1 : Int32)) hx hb dX4_readNumber_41 (by decide) ?_
          refine lv_iadd hx hb dX4_readNumber_42 ?_
          refine lv_topi (fun v8 ev8 => ?_)
          replace hf := lt_e ev8 hf
          refine va_put hx hb hts n4_ tyX4 tyX4_ok nmX4 hown hK hP hD hS 0 rfl rfl 2 (Nat.le_of_ble_eq_true rfl) k5_ (fun _ h => h) rfl (v := .int v8) (tyX4_ok 2 (Nat.le_of_ble_eq_true rfl)) rfl rfl (Nat.le_of_ble_eq_true rfl) dX4_readNumber_43 (fun H locs hP hD hS => ?_)
          have hP : va_P D vwCl (w_orders cI cC h0 h1 sg oL v8 oC oF oS oD oP oR oU) H := hP
          have hD : va_D AA (w_orders cI cC h0 h1 sg oL v8 oC oF oS oD oP oR oU) := hD
          obtain ⟨v9, ev9⟩ : ∃ z : Int32, z = y2_4 + (1 : Int32) := ⟨_, rfl⟩
          replace hf := lt_e ev9 hf
          refine lv_iinc (v := v9) (lv' := [(2, .int v9), (1, .int v7), (0, .ref h0)]) hx hb dX4_readNumber_46 hl (k := 2) rfl (by rw [ev9]; rfl) (by decide) rfl (fun ls hl => ?_)
          refine lv_goto (tgt := 4) hx hb dX4_readNumber_49 (by decide) ?_
          exact IH4 v7 v9 v8 H locs hP hD hS ls (lv_sub hl [2, 1, 0] rfl) hf
  rw [f_X4_readNumber] at hf
  obtain ⟨H, hH⟩ : ∃ z : Heap, z = s.heap := ⟨_, rfl⟩
  obtain ⟨locs, hL⟩ : ∃ z : List Loc, z = [] := ⟨_, rfl⟩
  replace hP := hH ▸ hP
  replace hS : va_S AA s.heap H locs := by rw [hH, hL]; exact hS
  suffices hgoal : W p l e rmX4_readNumber s m args below meth c H locs 0 0 Q (F0 m 0 ls []) by rw [hH, hL] at hgoal; exact hgoal
  clear hH hL
  refine lv_iconst (v := (-1 : Int32)) hx hb dX4_readNumber_0 (by decide) ?_
  refine lv_istore_n (lv' := [(1, .int (-1 : Int32)), (0, .ref h0)]) hx hb dX4_readNumber_1 rfl hl (by decide) rfl (fun ls hl => ?_)
  refine lv_iconst (v := (0 : Int32)) hx hb dX4_readNumber_2 (by decide) ?_
  refine lv_istore_n (lv' := [(2, .int (0 : Int32)), (1, .int (-1 : Int32)), (0, .ref h0)]) hx hb dX4_readNumber_3 rfl hl (by decide) rfl (fun ls hl => ?_)
  exact L4 FU (-1 : Int32) (0 : Int32) oA H locs hP hD hS ls (lv_sub hl [2, 1, 0] rfl) hf
abbrev rmX4_readFirstNumber : Room := { frames := 3, cells := 0, slots := 0, locals := 43 }
set_option maxHeartbeats 4000000 in
set_option maxRecDepth 100000 in
theorem c_X4_readFirstNumber (h0 : Nat) (h1 : Nat) (sg : Nat → Int32) (oL : Int32) (oA : Int32) (oC : Int32) (oF : Int32) (oS : Int32) (oD : Int32) (oP : Int32) (oR : Int32) (oU : Int32) (R : Int32 × Int32 × Int32) (hf : f_X4_readFirstNumber sg oL oA oF = some R) : WrI l yX4_readFirstNumber wsX4_readFirstNumber rmX4_readFirstNumber D cI cC (w_orders cI cC h0 h1 sg oL oA oC oF oS oD oP oR oU) (w_orders cI cC h0 h1 sg oL R.2.1 oC R.2.2 oS oD oP oR oU) [.ref h0] R.1 := by
  refine en_W (cc := cX4_readFirstNumber) (n := 1) (by decide) rfl (Nat.le_of_ble_eq_true rfl) ?_
  intro p e s m args below meth c Q AA ls hx hb hml hown hts hK hN hP hD hS hl ret
  have hown : s.vm.findClass RX4 = some m.cls := hown
  have hF : FX p m c cX4_readFirstNumber 1 s args wsX4_readFirstNumber RX4 D cI cC := ⟨⟨hx, hb, hml, hown, hts⟩, hK, hN⟩
  have hl : lv_has ls 1 [(0, .ref h0)] := hl
  have k1_ := hts (.fieldLink RX4 73 "DriftGrinders$Orders" "firstNumber" "I") (List.mem_of_getElem? (i := 1) rfl)
  have n4_ : ∀ w ∈ wsX40, w ∈ wsX4_readFirstNumber := fun _ h => List.mem_cons_of_mem _ (List.mem_append_right _ h)
  rw [f_X4_readFirstNumber] at hf
  obtain ⟨H, hH⟩ : ∃ z : Heap, z = s.heap := ⟨_, rfl⟩
  obtain ⟨locs, hL⟩ : ∃ z : List Loc, z = [] := ⟨_, rfl⟩
  replace hP := hH ▸ hP
  replace hS : va_S AA s.heap H locs := by rw [hH, hL]; exact hS
  suffices hgoal : W p l e rmX4_readFirstNumber s m args below meth c H locs 0 0 Q (F0 m 0 ls []) by rw [hH, hL] at hgoal; exact hgoal
  clear hH hL
  refine lv_aload_n hx hb dX4_readFirstNumber_0 rfl (lv_at hl 0 rfl) ?_
  refine lv_aload_n hx hb dX4_readFirstNumber_1 rfl (lv_at hl 0 rfl) ?_
  obtain ⟨q1, hq1, hf⟩ := ob hf
  refine cl_WV (W1 := (w_orders cI cC h0 h1 sg oL q1.2 oC oF oS oD oP oR oU)) (As := []) (rest := [.ref h0]) hF hP hD hS (c_X4_readNumber h0 h1 sg oL oA oC oF oS oD oP oR oU q1 hq1) (cwV 0 hts gX4_readFirstNumber_X4_readNumber rfl rfl rfl (by decide +kernel) ⟨(Nat.le_of_ble_eq_true rfl), (Nat.le_of_ble_eq_true rfl)⟩) [0, 1] rfl (by decide +kernel) (va_recv hK hP (ci := 4) (q0 := 0) rfl rfl) rfl rfl hl.1 (Nat.le_of_ble_eq_true rfl) dX4_readFirstNumber_2 ⟨Nat.zero_le _, Nat.zero_le _⟩ (hA2 [h0, h1] rfl rfl) [] rfl [] rfl rfl (nW := 2) rfl (by decide +kernel) (fun H locs hP hD hS => ?_)
  refine va_put hx hb hts n4_ tyX4 tyX4_ok nmX4 hown hK hP hD hS 0 rfl rfl 4 (Nat.le_of_ble_eq_true rfl) k1_ (fun _ h => h) rfl (v := .int q1.1) (tyX4_ok 4 (Nat.le_of_ble_eq_true rfl)) rfl rfl (Nat.le_of_ble_eq_true rfl) dX4_readFirstNumber_5 (fun H locs hP hD hS => ?_)
  have hP : va_P D vwCl (w_orders cI cC h0 h1 sg oL q1.2 oC q1.1 oS oD oP oR oU) H := hP
  have hD : va_D AA (w_orders cI cC h0 h1 sg oL q1.2 oC q1.1 oS oD oP oR oU) := hD
  refine lv_aload_n hx hb dX4_readFirstNumber_8 rfl (lv_at hl 0 rfl) ?_
  refine va_get hx hb hts n4_ hown hK hP 0 rfl rfl 4 (Nat.le_of_ble_eq_true rfl) k1_ (fun _ h => h) rfl dX4_readFirstNumber_9 ?_
  refine lv_iconst (v := (-1 : Int32)) hx hb dX4_readFirstNumber_12 (by decide) ?_
  refine lv_icmp_eq (tgt := 20) hx hb dX4_readFirstNumber_13 (by decide) (fun hc2 => ?_) (fun hc2 => ?_)
  · replace hf := it hc2 hf
    refine lv_iconst (v := (0 : Int32)) hx hb dX4_readFirstNumber_20 (by decide) ?_
    obtain rfl := Option.some.inj hf
    exact ret 21 ls _ H locs dX4_readFirstNumber_21 (by decide) rfl hP hS
  · replace hf := ie hc2 hf
    refine lv_iconst (v := (1 : Int32)) hx hb dX4_readFirstNumber_16 (by decide) ?_
    refine lv_goto (tgt := 21) hx hb dX4_readFirstNumber_17 (by decide) ?_
    obtain rfl := Option.some.inj hf
    exact ret 21 ls _ H locs dX4_readFirstNumber_21 (by decide) rfl hP hS
abbrev rmX4_readSecondNumber : Room := { frames := 3, cells := 0, slots := 0, locals := 43 }
set_option maxHeartbeats 4000000 in
set_option maxRecDepth 100000 in
theorem c_X4_readSecondNumber (h0 : Nat) (h1 : Nat) (sg : Nat → Int32) (oL : Int32) (oA : Int32) (oC : Int32) (oF : Int32) (oS : Int32) (oD : Int32) (oP : Int32) (oR : Int32) (oU : Int32) (R : Int32 × Int32 × Int32) (hf : f_X4_readSecondNumber sg oL oA oS = some R) : WrI l yX4_readSecondNumber wsX4_readSecondNumber rmX4_readSecondNumber D cI cC (w_orders cI cC h0 h1 sg oL oA oC oF oS oD oP oR oU) (w_orders cI cC h0 h1 sg oL R.2.1 oC oF R.2.2 oD oP oR oU) [.ref h0] R.1 := by
  refine en_W (cc := cX4_readSecondNumber) (n := 1) (by decide) rfl (Nat.le_of_ble_eq_true rfl) ?_
  intro p e s m args below meth c Q AA ls hx hb hml hown hts hK hN hP hD hS hl ret
  have hown : s.vm.findClass RX4 = some m.cls := hown
  have hF : FX p m c cX4_readSecondNumber 1 s args wsX4_readSecondNumber RX4 D cI cC := ⟨⟨hx, hb, hml, hown, hts⟩, hK, hN⟩
  have hl : lv_has ls 1 [(0, .ref h0)] := hl
  have k1_ := hts (.fieldLink RX4 76 "DriftGrinders$Orders" "secondNumber" "I") (List.mem_of_getElem? (i := 1) rfl)
  have n4_ : ∀ w ∈ wsX40, w ∈ wsX4_readSecondNumber := fun _ h => List.mem_cons_of_mem _ (List.mem_append_right _ h)
  rw [f_X4_readSecondNumber] at hf
  obtain ⟨H, hH⟩ : ∃ z : Heap, z = s.heap := ⟨_, rfl⟩
  obtain ⟨locs, hL⟩ : ∃ z : List Loc, z = [] := ⟨_, rfl⟩
  replace hP := hH ▸ hP
  replace hS : va_S AA s.heap H locs := by rw [hH, hL]; exact hS
  suffices hgoal : W p l e rmX4_readSecondNumber s m args below meth c H locs 0 0 Q (F0 m 0 ls []) by rw [hH, hL] at hgoal; exact hgoal
  clear hH hL
  refine lv_aload_n hx hb dX4_readSecondNumber_0 rfl (lv_at hl 0 rfl) ?_
  refine lv_aload_n hx hb dX4_readSecondNumber_1 rfl (lv_at hl 0 rfl) ?_
  obtain ⟨q1, hq1, hf⟩ := ob hf
  refine cl_WV (W1 := (w_orders cI cC h0 h1 sg oL q1.2 oC oF oS oD oP oR oU)) (As := []) (rest := [.ref h0]) hF hP hD hS (c_X4_readNumber h0 h1 sg oL oA oC oF oS oD oP oR oU q1 hq1) (cwV 0 hts gX4_readSecondNumber_X4_readNumber rfl rfl rfl (by decide +kernel) ⟨(Nat.le_of_ble_eq_true rfl), (Nat.le_of_ble_eq_true rfl)⟩) [0, 1] rfl (by decide +kernel) (va_recv hK hP (ci := 4) (q0 := 0) rfl rfl) rfl rfl hl.1 (Nat.le_of_ble_eq_true rfl) dX4_readSecondNumber_2 ⟨Nat.zero_le _, Nat.zero_le _⟩ (hA2 [h0, h1] rfl rfl) [] rfl [] rfl rfl (nW := 2) rfl (by decide +kernel) (fun H locs hP hD hS => ?_)
  refine va_put hx hb hts n4_ tyX4 tyX4_ok nmX4 hown hK hP hD hS 0 rfl rfl 5 (Nat.le_of_ble_eq_true rfl) k1_ (fun _ h => h) rfl (v := .int q1.1) (tyX4_ok 5 (Nat.le_of_ble_eq_true rfl)) rfl rfl (Nat.le_of_ble_eq_true rfl) dX4_readSecondNumber_5 (fun H locs hP hD hS => ?_)
  have hP : va_P D vwCl (w_orders cI cC h0 h1 sg oL q1.2 oC oF q1.1 oD oP oR oU) H := hP
  have hD : va_D AA (w_orders cI cC h0 h1 sg oL q1.2 oC oF q1.1 oD oP oR oU) := hD
  refine lv_aload_n hx hb dX4_readSecondNumber_8 rfl (lv_at hl 0 rfl) ?_
  refine va_get hx hb hts n4_ hown hK hP 0 rfl rfl 5 (Nat.le_of_ble_eq_true rfl) k1_ (fun _ h => h) rfl dX4_readSecondNumber_9 ?_
  refine lv_iconst (v := (-1 : Int32)) hx hb dX4_readSecondNumber_12 (by decide) ?_
  refine lv_icmp_eq (tgt := 20) hx hb dX4_readSecondNumber_13 (by decide) (fun hc2 => ?_) (fun hc2 => ?_)
  · replace hf := it hc2 hf
    refine lv_iconst (v := (0 : Int32)) hx hb dX4_readSecondNumber_20 (by decide) ?_
    obtain rfl := Option.some.inj hf
    exact ret 21 ls _ H locs dX4_readSecondNumber_21 (by decide) rfl hP hS
  · replace hf := ie hc2 hf
    refine lv_iconst (v := (1 : Int32)) hx hb dX4_readSecondNumber_16 (by decide) ?_
    refine lv_goto (tgt := 21) hx hb dX4_readSecondNumber_17 (by decide) ?_
    obtain rfl := Option.some.inj hf
    exact ret 21 ls _ H locs dX4_readSecondNumber_21 (by decide) rfl hP hS
abbrev rmX4_readOrder : Room := { frames := 4, cells := 0, slots := 0, locals := 63 }
set_option maxHeartbeats 4000000 in
set_option maxRecDepth 100000 in
theorem c_X4_readOrder (h0 : Nat) (h1 : Nat) (sg : Nat → Int32) (oL : Int32) (oA : Int32) (oC : Int32) (oF : Int32) (oS : Int32) (oD : Int32) (oP : Int32) (oR : Int32) (oU : Int32) (R : Int32 × Int32 × Int32 × Int32 × Int32) (hf : f_X4_readOrder sg oL oA oC oF oS = some R) : WrI l yX4_readOrder wsX4_readOrder rmX4_readOrder D cI cC (w_orders cI cC h0 h1 sg oL oA oC oF oS oD oP oR oU) (w_orders cI cC h0 h1 sg oL R.2.1 R.2.2.1 R.2.2.2.1 R.2.2.2.2 oD oP oR oU) [.ref h0] R.1 := by
  refine en_W (cc := cX4_readOrder) (n := 1) (by decide) rfl (Nat.le_of_ble_eq_true rfl) ?_
  intro p e s m args below meth c Q AA ls hx hb hml hown hts hK hN hP hD hS hl ret
  have hown : s.vm.findClass RX4 = some m.cls := hown
  have hF : FX p m c cX4_readOrder 1 s args wsX4_readOrder RX4 D cI cC := ⟨⟨hx, hb, hml, hown, hts⟩, hK, hN⟩
  have hl : lv_has ls 1 [(0, .ref h0)] := hl
  have k1_ := hts (.fieldLink RX4 55 "DriftGrinders$Orders" "letter" "C") (List.mem_of_getElem? (i := 1) rfl)
  have k2_ := hts (.fieldLink RX4 34 "DriftGrinders$Orders" "at" "I") (List.mem_of_getElem? (i := 2) rfl)
  have n4_ : ∀ w ∈ wsX40, w ∈ wsX4_readOrder := fun _ h => List.mem_cons_of_mem _ (List.mem_append_right _ h)
  rw [f_X4_readOrder] at hf
  obtain ⟨H, hH⟩ : ∃ z : Heap, z = s.heap := ⟨_, rfl⟩
  obtain ⟨locs, hL⟩ : ∃ z : List Loc, z = [] := ⟨_, rfl⟩
  replace hP := hH ▸ hP
  replace hS : va_S AA s.heap H locs := by rw [hH, hL]; exact hS
  suffices hgoal : W p l e rmX4_readOrder s m args below meth c H locs 0 0 Q (F0 m 0 ls []) by rw [hH, hL] at hgoal; exact hgoal
  clear hH hL
  refine lv_aload_n hx hb dX4_readOrder_0 rfl (lv_at hl 0 rfl) ?_
  refine lv_aload_n hx hb dX4_readOrder_1 rfl (lv_at hl 0 rfl) ?_
  obtain ⟨q1, hq1, hf⟩ := ob hf
  refine cl_RV (As := []) (rest := [.ref h0]) hF hP hD (c_X4_signHere h0 h1 sg oL oA oC oF oS oD oP oR oU q1 hq1) (cwV 0 hts gX4_readOrder_X4_signHere rfl rfl rfl (by decide +kernel) ⟨(Nat.le_of_ble_eq_true rfl), (Nat.le_of_ble_eq_true rfl)⟩) [0, 1] rfl (by decide +kernel) (va_recv hK hP (ci := 4) (q0 := 0) rfl rfl) rfl rfl hl.1 (Nat.le_of_ble_eq_true rfl) dX4_readOrder_2 ⟨Nat.zero_le _, Nat.zero_le _⟩ ?_
  obtain ⟨hg2, hf⟩ := gd_s hf
  refine va_put hx hb hts n4_ tyX4 tyX4_ok nmX4 hown hK hP hD hS 0 rfl rfl 3 (Nat.le_of_ble_eq_true rfl) k1_ (fun _ h => h) rfl (v := .int q1) (tyX4_ok 3 (Nat.le_of_ble_eq_true rfl)) (ch_ok hg2).1 (ch_ok hg2).2 (Nat.le_of_ble_eq_true rfl) dX4_readOrder_5 (fun H locs hP hD hS => ?_)
  have hP : va_P D vwCl (w_orders cI cC h0 h1 sg oL oA q1 oF oS oD oP oR oU) H := hP
  have hD : va_D AA (w_orders cI cC h0 h1 sg oL oA q1 oF oS oD oP oR oU) := hD
  refine lv_aload_n hx hb dX4_readOrder_8 rfl (lv_at hl 0 rfl) ?_
  refine va_get hx hb hts n4_ hown hK hP 0 rfl rfl 3 (Nat.le_of_ble_eq_true rfl) k1_ (fun _ h => h) rfl dX4_readOrder_9 ?_
  by_cases hc3 : q1 = 98
  · replace hf := it hc3 hf
    refine lv_lookup (off := 60) (tgt := 72) hx hb dX4_readOrder_12 (by decide) (by rw [hc3]; decide) (by decide) ?_
    refine lv_aload_n hx hb dX4_readOrder_72 rfl (lv_at hl 0 rfl) ?_
    refine lv_dup hx hb dX4_readOrder_73 rfl ?_
    refine va_get hx hb hts n4_ hown hK hP 0 rfl rfl 2 (Nat.le_of_ble_eq_true rfl) k2_ (fun _ h => h) rfl dX4_readOrder_74 ?_
    refine lv_iconst (v := (1 : Int32)) hx hb dX4_readOrder_77 (by decide) ?_
    refine lv_iadd hx hb dX4_readOrder_78 ?_
    refine lv_topi (fun v4 ev4 => ?_)
    replace hf := lt_e ev4 hf
    refine va_put hx hb hts n4_ tyX4 tyX4_ok nmX4 hown hK hP hD hS 0 rfl rfl 2 (Nat.le_of_ble_eq_true rfl) k2_ (fun _ h => h) rfl (v := .int v4) (tyX4_ok 2 (Nat.le_of_ble_eq_true rfl)) rfl rfl (Nat.le_of_ble_eq_true rfl) dX4_readOrder_79 (fun H locs hP hD hS => ?_)
    have hP : va_P D vwCl (w_orders cI cC h0 h1 sg oL v4 q1 oF oS oD oP oR oU) H := hP
    have hD : va_D AA (w_orders cI cC h0 h1 sg oL v4 q1 oF oS oD oP oR oU) := hD
    refine lv_aload_n hx hb dX4_readOrder_82 rfl (lv_at hl 0 rfl) ?_
    obtain ⟨q5, hq5, hf⟩ := ob hf
    refine cl_WV (W1 := (w_orders cI cC h0 h1 sg oL q5.2.1 q1 q5.2.2 oS oD oP oR oU)) (As := []) (rest := []) hF hP hD hS (c_X4_readFirstNumber h0 h1 sg oL v4 q1 oF oS oD oP oR oU q5 hq5) (cwV 0 hts gX4_readOrder_X4_readFirstNumber rfl rfl rfl (by decide +kernel) ⟨(Nat.le_of_ble_eq_true rfl), (Nat.le_of_ble_eq_true rfl)⟩) [0, 1] rfl (by decide +kernel) (va_recv hK hP (ci := 4) (q0 := 0) rfl rfl) rfl rfl hl.1 (Nat.le_of_ble_eq_true rfl) dX4_readOrder_83 ⟨Nat.zero_le _, Nat.zero_le _⟩ (hA2 [h0, h1] rfl rfl) [] rfl [] rfl rfl (nW := 2) rfl (by decide +kernel) (fun H locs hP hD hS => ?_)
    refine lv_if_eq (tgt := 118) hx hb dX4_readOrder_86 (by decide) (fun hc6 => ?_) (fun hc6 => ?_)
    · replace hf := it hc6 hf
      refine lv_iconst (v := (0 : Int32)) hx hb dX4_readOrder_118 (by decide) ?_
      obtain rfl := Option.some.inj hf
      exact ret 119 ls _ H locs dX4_readOrder_119 (by decide) rfl hP hS
    · replace hf := ie hc6 hf
      refine lv_aload_n hx hb dX4_readOrder_89 rfl (lv_at hl 0 rfl) ?_
      refine lv_bipush (v := (44 : Int32)) hx hb dX4_readOrder_90 (by decide) ?_
      obtain ⟨q7, hq7, hf⟩ := ob hf
      refine cl_WV (W1 := (w_orders cI cC h0 h1 sg oL q7.2 q1 q5.2.2 oS oD oP oR oU)) (As := [.int (44 : Int32)]) (rest := []) hF hP hD hS (c_X4_passSign h0 h1 (44 : Int32) sg oL q5.2.1 q1 q5.2.2 oS oD oP oR oU q7 hq7) (cwV 1 hts gX4_readOrder_X4_passSign rfl rfl rfl (by decide +kernel) ⟨(Nat.le_of_ble_eq_true rfl), (Nat.le_of_ble_eq_true rfl)⟩) [0, 1] rfl (by decide +kernel) (va_recv hK hP (ci := 4) (q0 := 0) rfl rfl) rfl rfl hl.1 (Nat.le_of_ble_eq_true rfl) dX4_readOrder_92 ⟨Nat.zero_le _, Nat.zero_le _⟩ (hA2 [h0, h1] rfl rfl) [] rfl [] rfl rfl (nW := 2) rfl (by decide +kernel) (fun H locs hP hD hS => ?_)
      refine lv_if_eq (tgt := 118) hx hb dX4_readOrder_95 (by decide) (fun hc8 => ?_) (fun hc8 => ?_)
      · replace hf := it hc8 hf
        refine lv_iconst (v := (0 : Int32)) hx hb dX4_readOrder_118 (by decide) ?_
        obtain rfl := Option.some.inj hf
        exact ret 119 ls _ H locs dX4_readOrder_119 (by decide) rfl hP hS
      · replace hf := ie hc8 hf
        refine lv_aload_n hx hb dX4_readOrder_98 rfl (lv_at hl 0 rfl) ?_
        obtain ⟨q9, hq9, hf⟩ := ob hf
        refine cl_WV (W1 := (w_orders cI cC h0 h1 sg oL q9.2.1 q1 q5.2.2 q9.2.2 oD oP oR oU)) (As := []) (rest := []) hF hP hD hS (c_X4_readSecondNumber h0 h1 sg oL q7.2 q1 q5.2.2 oS oD oP oR oU q9 hq9) (cwV 0 hts gX4_readOrder_X4_readSecondNumber rfl rfl rfl (by decide +kernel) ⟨(Nat.le_of_ble_eq_true rfl), (Nat.le_of_ble_eq_true rfl)⟩) [0, 1] rfl (by decide +kernel) (va_recv hK hP (ci := 4) (q0 := 0) rfl rfl) rfl rfl hl.1 (Nat.le_of_ble_eq_true rfl) dX4_readOrder_99 ⟨Nat.zero_le _, Nat.zero_le _⟩ (hA2 [h0, h1] rfl rfl) [] rfl [] rfl rfl (nW := 2) rfl (by decide +kernel) (fun H locs hP hD hS => ?_)
        refine lv_if_eq (tgt := 118) hx hb dX4_readOrder_102 (by decide) (fun hc10 => ?_) (fun hc10 => ?_)
        · replace hf := it hc10 hf
          refine lv_iconst (v := (0 : Int32)) hx hb dX4_readOrder_118 (by decide) ?_
          obtain rfl := Option.some.inj hf
          exact ret 119 ls _ H locs dX4_readOrder_119 (by decide) rfl hP hS
        · replace hf := ie hc10 hf
          refine lv_aload_n hx hb dX4_readOrder_105 rfl (lv_at hl 0 rfl) ?_
          refine lv_bipush (v := (59 : Int32)) hx hb dX4_readOrder_106 (by decide) ?_
          obtain ⟨q11, hq11, hf⟩ := ob hf
          refine cl_WV (W1 := (w_orders cI cC h0 h1 sg oL q11.2 q1 q5.2.2 q9.2.2 oD oP oR oU)) (As := [.int (59 : Int32)]) (rest := []) hF hP hD hS (c_X4_passSign h0 h1 (59 : Int32) sg oL q9.2.1 q1 q5.2.2 q9.2.2 oD oP oR oU q11 hq11) (cwV 1 hts gX4_readOrder_X4_passSign rfl rfl rfl (by decide +kernel) ⟨(Nat.le_of_ble_eq_true rfl), (Nat.le_of_ble_eq_true rfl)⟩) [0, 1] rfl (by decide +kernel) (va_recv hK hP (ci := 4) (q0 := 0) rfl rfl) rfl rfl hl.1 (Nat.le_of_ble_eq_true rfl) dX4_readOrder_108 ⟨Nat.zero_le _, Nat.zero_le _⟩ (hA2 [h0, h1] rfl rfl) [] rfl [] rfl rfl (nW := 2) rfl (by decide +kernel) (fun H locs hP hD hS => ?_)
          refine lv_if_eq (tgt := 118) hx hb dX4_readOrder_111 (by decide) (fun hc12 => ?_) (fun hc12 => ?_)
          · replace hf := it hc12 hf
            refine lv_iconst (v := (0 : Int32)) hx hb dX4_readOrder_118 (by decide) ?_
            obtain rfl := Option.some.inj hf
            exact ret 119 ls _ H locs dX4_readOrder_119 (by decide) rfl hP hS
          · replace hf := ie hc12 hf
            refine lv_iconst (v := (1 : Int32)) hx hb dX4_readOrder_114 (by decide) ?_
            refine lv_goto (tgt := 119) hx hb dX4_readOrder_115 (by decide) ?_
            obtain rfl := Option.some.inj hf
            exact ret 119 ls _ H locs dX4_readOrder_119 (by decide) rfl hP hS
  replace hf := ie hc3 hf
  by_cases hc13 : q1 = 102
  · replace hf := it hc13 hf
    refine lv_lookup (off := 60) (tgt := 72) hx hb dX4_readOrder_12 (by decide) (by rw [hc13]; decide) (by decide) ?_
    refine lv_aload_n hx hb dX4_readOrder_72 rfl (lv_at hl 0 rfl) ?_
    refine lv_dup hx hb dX4_readOrder_73 rfl ?_
    refine va_get hx hb hts n4_ hown hK hP 0 rfl rfl 2 (Nat.le_of_ble_eq_true rfl) k2_ (fun _ h => h) rfl dX4_readOrder_74 ?_
    refine lv_iconst (v := (1 : Int32)) hx hb dX4_readOrder_77 (by decide) ?_
    refine lv_iadd hx hb dX4_readOrder_78 ?_
    refine lv_topi (fun v14 ev14 => ?_)
    replace hf := lt_e ev14 hf
    refine va_put hx hb hts n4_ tyX4 tyX4_ok nmX4 hown hK hP hD hS 0 rfl rfl 2 (Nat.le_of_ble_eq_true rfl) k2_ (fun _ h => h) rfl (v := .int v14) (tyX4_ok 2 (Nat.le_of_ble_eq_true rfl)) rfl rfl (Nat.le_of_ble_eq_true rfl) dX4_readOrder_79 (fun H locs hP hD hS => ?_)
    have hP : va_P D vwCl (w_orders cI cC h0 h1 sg oL v14 q1 oF oS oD oP oR oU) H := hP
    have hD : va_D AA (w_orders cI cC h0 h1 sg oL v14 q1 oF oS oD oP oR oU) := hD
    refine lv_aload_n hx hb dX4_readOrder_82 rfl (lv_at hl 0 rfl) ?_
    obtain ⟨q15, hq15, hf⟩ := ob hf
    refine cl_WV (W1 := (w_orders cI cC h0 h1 sg oL q15.2.1 q1 q15.2.2 oS oD oP oR oU)) (As := []) (rest := []) hF hP hD hS (c_X4_readFirstNumber h0 h1 sg oL v14 q1 oF oS oD oP oR oU q15 hq15) (cwV 0 hts gX4_readOrder_X4_readFirstNumber rfl rfl rfl (by decide +kernel) ⟨(Nat.le_of_ble_eq_true rfl), (Nat.le_of_ble_eq_true rfl)⟩) [0, 1] rfl (by decide +kernel) (va_recv hK hP (ci := 4) (q0 := 0) rfl rfl) rfl rfl hl.1 (Nat.le_of_ble_eq_true rfl) dX4_readOrder_83 ⟨Nat.zero_le _, Nat.zero_le _⟩ (hA2 [h0, h1] rfl rfl) [] rfl [] rfl rfl (nW := 2) rfl (by decide +kernel) (fun H locs hP hD hS => ?_)
    refine lv_if_eq (tgt := 118) hx hb dX4_readOrder_86 (by decide) (fun hc16 => ?_) (fun hc16 => ?_)
    · replace hf := it hc16 hf
      refine lv_iconst (v := (0 : Int32)) hx hb dX4_readOrder_118 (by decide) ?_
      obtain rfl := Option.some.inj hf
      exact ret 119 ls _ H locs dX4_readOrder_119 (by decide) rfl hP hS
    · replace hf := ie hc16 hf
      refine lv_aload_n hx hb dX4_readOrder_89 rfl (lv_at hl 0 rfl) ?_
      refine lv_bipush (v := (44 : Int32)) hx hb dX4_readOrder_90 (by decide) ?_
      obtain ⟨q17, hq17, hf⟩ := ob hf
      refine cl_WV (W1 := (w_orders cI cC h0 h1 sg oL q17.2 q1 q15.2.2 oS oD oP oR oU)) (As := [.int (44 : Int32)]) (rest := []) hF hP hD hS (c_X4_passSign h0 h1 (44 : Int32) sg oL q15.2.1 q1 q15.2.2 oS oD oP oR oU q17 hq17) (cwV 1 hts gX4_readOrder_X4_passSign rfl rfl rfl (by decide +kernel) ⟨(Nat.le_of_ble_eq_true rfl), (Nat.le_of_ble_eq_true rfl)⟩) [0, 1] rfl (by decide +kernel) (va_recv hK hP (ci := 4) (q0 := 0) rfl rfl) rfl rfl hl.1 (Nat.le_of_ble_eq_true rfl) dX4_readOrder_92 ⟨Nat.zero_le _, Nat.zero_le _⟩ (hA2 [h0, h1] rfl rfl) [] rfl [] rfl rfl (nW := 2) rfl (by decide +kernel) (fun H locs hP hD hS => ?_)
      refine lv_if_eq (tgt := 118) hx hb dX4_readOrder_95 (by decide) (fun hc18 => ?_) (fun hc18 => ?_)
      · replace hf := it hc18 hf
        refine lv_iconst (v := (0 : Int32)) hx hb dX4_readOrder_118 (by decide) ?_
        obtain rfl := Option.some.inj hf
        exact ret 119 ls _ H locs dX4_readOrder_119 (by decide) rfl hP hS
      · replace hf := ie hc18 hf
        refine lv_aload_n hx hb dX4_readOrder_98 rfl (lv_at hl 0 rfl) ?_
        obtain ⟨q19, hq19, hf⟩ := ob hf
        refine cl_WV (W1 := (w_orders cI cC h0 h1 sg oL q19.2.1 q1 q15.2.2 q19.2.2 oD oP oR oU)) (As := []) (rest := []) hF hP hD hS (c_X4_readSecondNumber h0 h1 sg oL q17.2 q1 q15.2.2 oS oD oP oR oU q19 hq19) (cwV 0 hts gX4_readOrder_X4_readSecondNumber rfl rfl rfl (by decide +kernel) ⟨(Nat.le_of_ble_eq_true rfl), (Nat.le_of_ble_eq_true rfl)⟩) [0, 1] rfl (by decide +kernel) (va_recv hK hP (ci := 4) (q0 := 0) rfl rfl) rfl rfl hl.1 (Nat.le_of_ble_eq_true rfl) dX4_readOrder_99 ⟨Nat.zero_le _, Nat.zero_le _⟩ (hA2 [h0, h1] rfl rfl) [] rfl [] rfl rfl (nW := 2) rfl (by decide +kernel) (fun H locs hP hD hS => ?_)
        refine lv_if_eq (tgt := 118) hx hb dX4_readOrder_102 (by decide) (fun hc20 => ?_) (fun hc20 => ?_)
        · replace hf := it hc20 hf
          refine lv_iconst (v := (0 : Int32)) hx hb dX4_readOrder_118 (by decide) ?_
          obtain rfl := Option.some.inj hf
          exact ret 119 ls _ H locs dX4_readOrder_119 (by decide) rfl hP hS
        · replace hf := ie hc20 hf
          refine lv_aload_n hx hb dX4_readOrder_105 rfl (lv_at hl 0 rfl) ?_
          refine lv_bipush (v := (59 : Int32)) hx hb dX4_readOrder_106 (by decide) ?_
          obtain ⟨q21, hq21, hf⟩ := ob hf
          refine cl_WV (W1 := (w_orders cI cC h0 h1 sg oL q21.2 q1 q15.2.2 q19.2.2 oD oP oR oU)) (As := [.int (59 : Int32)]) (rest := []) hF hP hD hS (c_X4_passSign h0 h1 (59 : Int32) sg oL q19.2.1 q1 q15.2.2 q19.2.2 oD oP oR oU q21 hq21) (cwV 1 hts gX4_readOrder_X4_passSign rfl rfl rfl (by decide +kernel) ⟨(Nat.le_of_ble_eq_true rfl), (Nat.le_of_ble_eq_true rfl)⟩) [0, 1] rfl (by decide +kernel) (va_recv hK hP (ci := 4) (q0 := 0) rfl rfl) rfl rfl hl.1 (Nat.le_of_ble_eq_true rfl) dX4_readOrder_108 ⟨Nat.zero_le _, Nat.zero_le _⟩ (hA2 [h0, h1] rfl rfl) [] rfl [] rfl rfl (nW := 2) rfl (by decide +kernel) (fun H locs hP hD hS => ?_)
          refine lv_if_eq (tgt := 118) hx hb dX4_readOrder_111 (by decide) (fun hc22 => ?_) (fun hc22 => ?_)
          · replace hf := it hc22 hf
            refine lv_iconst (v := (0 : Int32)) hx hb dX4_readOrder_118 (by decide) ?_
            obtain rfl := Option.some.inj hf
            exact ret 119 ls _ H locs dX4_readOrder_119 (by decide) rfl hP hS
          · replace hf := ie hc22 hf
            refine lv_iconst (v := (1 : Int32)) hx hb dX4_readOrder_114 (by decide) ?_
            refine lv_goto (tgt := 119) hx hb dX4_readOrder_115 (by decide) ?_
            obtain rfl := Option.some.inj hf
            exact ret 119 ls _ H locs dX4_readOrder_119 (by decide) rfl hP hS
  replace hf := ie hc13 hf
  by_cases hc23 : q1 = 103
  · replace hf := it hc23 hf
    refine lv_lookup (off := 60) (tgt := 72) hx hb dX4_readOrder_12 (by decide) (by rw [hc23]; decide) (by decide) ?_
    refine lv_aload_n hx hb dX4_readOrder_72 rfl (lv_at hl 0 rfl) ?_
    refine lv_dup hx hb dX4_readOrder_73 rfl ?_
    refine va_get hx hb hts n4_ hown hK hP 0 rfl rfl 2 (Nat.le_of_ble_eq_true rfl) k2_ (fun _ h => h) rfl dX4_readOrder_74 ?_
    refine lv_iconst (v := (1 : Int32)) hx hb dX4_readOrder_77 (by decide) ?_
    refine lv_iadd hx hb dX4_readOrder_78 ?_
    refine lv_topi (fun v24 ev24 => ?_)
    replace hf := lt_e ev24 hf
    refine va_put hx hb hts n4_ tyX4 tyX4_ok nmX4 hown hK hP hD hS 0 rfl rfl 2 (Nat.le_of_ble_eq_true rfl) k2_ (fun _ h => h) rfl (v := .int v24) (tyX4_ok 2 (Nat.le_of_ble_eq_true rfl)) rfl rfl (Nat.le_of_ble_eq_true rfl) dX4_readOrder_79 (fun H locs hP hD hS => ?_)
    have hP : va_P D vwCl (w_orders cI cC h0 h1 sg oL v24 q1 oF oS oD oP oR oU) H := hP
    have hD : va_D AA (w_orders cI cC h0 h1 sg oL v24 q1 oF oS oD oP oR oU) := hD
    refine lv_aload_n hx hb dX4_readOrder_82 rfl (lv_at hl 0 rfl) ?_
    obtain ⟨q25, hq25, hf⟩ := ob hf
    refine cl_WV (W1 := (w_orders cI cC h0 h1 sg oL q25.2.1 q1 q25.2.2 oS oD oP oR oU)) (As := []) (rest := []) hF hP hD hS (c_X4_readFirstNumber h0 h1 sg oL v24 q1 oF oS oD oP oR oU q25 hq25) (cwV 0 hts gX4_readOrder_X4_readFirstNumber rfl rfl rfl (by decide +kernel) ⟨(Nat.le_of_ble_eq_true rfl), (Nat.le_of_ble_eq_true rfl)⟩) [0, 1] rfl (by decide +kernel) (va_recv hK hP (ci := 4) (q0 := 0) rfl rfl) rfl rfl hl.1 (Nat.le_of_ble_eq_true rfl) dX4_readOrder_83 ⟨Nat.zero_le _, Nat.zero_le _⟩ (hA2 [h0, h1] rfl rfl) [] rfl [] rfl rfl (nW := 2) rfl (by decide +kernel) (fun H locs hP hD hS => ?_)
    refine lv_if_eq (tgt := 118) hx hb dX4_readOrder_86 (by decide) (fun hc26 => ?_) (fun hc26 => ?_)
    · replace hf := it hc26 hf
      refine lv_iconst (v := (0 : Int32)) hx hb dX4_readOrder_118 (by decide) ?_
      obtain rfl := Option.some.inj hf
      exact ret 119 ls _ H locs dX4_readOrder_119 (by decide) rfl hP hS
    · replace hf := ie hc26 hf
      refine lv_aload_n hx hb dX4_readOrder_89 rfl (lv_at hl 0 rfl) ?_
      refine lv_bipush (v := (44 : Int32)) hx hb dX4_readOrder_90 (by decide) ?_
      obtain ⟨q27, hq27, hf⟩ := ob hf
      refine cl_WV (W1 := (w_orders cI cC h0 h1 sg oL q27.2 q1 q25.2.2 oS oD oP oR oU)) (As := [.int (44 : Int32)]) (rest := []) hF hP hD hS (c_X4_passSign h0 h1 (44 : Int32) sg oL q25.2.1 q1 q25.2.2 oS oD oP oR oU q27 hq27) (cwV 1 hts gX4_readOrder_X4_passSign rfl rfl rfl (by decide +kernel) ⟨(Nat.le_of_ble_eq_true rfl), (Nat.le_of_ble_eq_true rfl)⟩) [0, 1] rfl (by decide +kernel) (va_recv hK hP (ci := 4) (q0 := 0) rfl rfl) rfl rfl hl.1 (Nat.le_of_ble_eq_true rfl) dX4_readOrder_92 ⟨Nat.zero_le _, Nat.zero_le _⟩ (hA2 [h0, h1] rfl rfl) [] rfl [] rfl rfl (nW := 2) rfl (by decide +kernel) (fun H locs hP hD hS => ?_)
      refine lv_if_eq (tgt := 118) hx hb dX4_readOrder_95 (by decide) (fun hc28 => ?_) (fun hc28 => ?_)
      · replace hf := it hc28 hf
        refine lv_iconst (v := (0 : Int32)) hx hb dX4_readOrder_118 (by decide) ?_
        obtain rfl := Option.some.inj hf
        exact ret 119 ls _ H locs dX4_readOrder_119 (by decide) rfl hP hS
      · replace hf := ie hc28 hf
        refine lv_aload_n hx hb dX4_readOrder_98 rfl (lv_at hl 0 rfl) ?_
        obtain ⟨q29, hq29, hf⟩ := ob hf
        refine cl_WV (W1 := (w_orders cI cC h0 h1 sg oL q29.2.1 q1 q25.2.2 q29.2.2 oD oP oR oU)) (As := []) (rest := []) hF hP hD hS (c_X4_readSecondNumber h0 h1 sg oL q27.2 q1 q25.2.2 oS oD oP oR oU q29 hq29) (cwV 0 hts gX4_readOrder_X4_readSecondNumber rfl rfl rfl (by decide +kernel) ⟨(Nat.le_of_ble_eq_true rfl), (Nat.le_of_ble_eq_true rfl)⟩) [0, 1] rfl (by decide +kernel) (va_recv hK hP (ci := 4) (q0 := 0) rfl rfl) rfl rfl hl.1 (Nat.le_of_ble_eq_true rfl) dX4_readOrder_99 ⟨Nat.zero_le _, Nat.zero_le _⟩ (hA2 [h0, h1] rfl rfl) [] rfl [] rfl rfl (nW := 2) rfl (by decide +kernel) (fun H locs hP hD hS => ?_)
        refine lv_if_eq (tgt := 118) hx hb dX4_readOrder_102 (by decide) (fun hc30 => ?_) (fun hc30 => ?_)
        · replace hf := it hc30 hf
          refine lv_iconst (v := (0 : Int32)) hx hb dX4_readOrder_118 (by decide) ?_
          obtain rfl := Option.some.inj hf
          exact ret 119 ls _ H locs dX4_readOrder_119 (by decide) rfl hP hS
        · replace hf := ie hc30 hf
          refine lv_aload_n hx hb dX4_readOrder_105 rfl (lv_at hl 0 rfl) ?_
          refine lv_bipush (v := (59 : Int32)) hx hb dX4_readOrder_106 (by decide) ?_
          obtain ⟨q31, hq31, hf⟩ := ob hf
          refine cl_WV (W1 := (w_orders cI cC h0 h1 sg oL q31.2 q1 q25.2.2 q29.2.2 oD oP oR oU)) (As := [.int (59 : Int32)]) (rest := []) hF hP hD hS (c_X4_passSign h0 h1 (59 : Int32) sg oL q29.2.1 q1 q25.2.2 q29.2.2 oD oP oR oU q31 hq31) (cwV 1 hts gX4_readOrder_X4_passSign rfl rfl rfl (by decide +kernel) ⟨(Nat.le_of_ble_eq_true rfl), (Nat.le_of_ble_eq_true rfl)⟩) [0, 1] rfl (by decide +kernel) (va_recv hK hP (ci := 4) (q0 := 0) rfl rfl) rfl rfl hl.1 (Nat.le_of_ble_eq_true rfl) dX4_readOrder_108 ⟨Nat.zero_le _, Nat.zero_le _⟩ (hA2 [h0, h1] rfl rfl) [] rfl [] rfl rfl (nW := 2) rfl (by decide +kernel) (fun H locs hP hD hS => ?_)
          refine lv_if_eq (tgt := 118) hx hb dX4_readOrder_111 (by decide) (fun hc32 => ?_) (fun hc32 => ?_)
          · replace hf := it hc32 hf
            refine lv_iconst (v := (0 : Int32)) hx hb dX4_readOrder_118 (by decide) ?_
            obtain rfl := Option.some.inj hf
            exact ret 119 ls _ H locs dX4_readOrder_119 (by decide) rfl hP hS
          · replace hf := ie hc32 hf
            refine lv_iconst (v := (1 : Int32)) hx hb dX4_readOrder_114 (by decide) ?_
            refine lv_goto (tgt := 119) hx hb dX4_readOrder_115 (by decide) ?_
            obtain rfl := Option.some.inj hf
            exact ret 119 ls _ H locs dX4_readOrder_119 (by decide) rfl hP hS
  replace hf := ie hc23 hf
  by_cases hc33 : q1 = 112
  · replace hf := it hc33 hf
    refine lv_lookup (off := 140) (tgt := 152) hx hb dX4_readOrder_12 (by decide) (by rw [hc33]; decide) (by decide) ?_
    refine lv_aload_n hx hb dX4_readOrder_152 rfl (lv_at hl 0 rfl) ?_
    refine lv_dup hx hb dX4_readOrder_153 rfl ?_
    refine va_get hx hb hts n4_ hown hK hP 0 rfl rfl 2 (Nat.le_of_ble_eq_true rfl) k2_ (fun _ h => h) rfl dX4_readOrder_154 ?_
    refine lv_iconst (v := (1 : Int32)) hx hb dX4_readOrder_157 (by decide) ?_
    refine lv_iadd hx hb dX4_readOrder_158 ?_
    refine lv_topi (fun v34 ev34 => ?_)
    replace hf := lt_e ev34 hf
    refine va_put hx hb hts n4_ tyX4 tyX4_ok nmX4 hown hK hP hD hS 0 rfl rfl 2 (Nat.le_of_ble_eq_true rfl) k2_ (fun _ h => h) rfl (v := .int v34) (tyX4_ok 2 (Nat.le_of_ble_eq_true rfl)) rfl rfl (Nat.le_of_ble_eq_true rfl) dX4_readOrder_159 (fun H locs hP hD hS => ?_)
    have hP : va_P D vwCl (w_orders cI cC h0 h1 sg oL v34 q1 oF oS oD oP oR oU) H := hP
    have hD : va_D AA (w_orders cI cC h0 h1 sg oL v34 q1 oF oS oD oP oR oU) := hD
    refine lv_aload_n hx hb dX4_readOrder_162 rfl (lv_at hl 0 rfl) ?_
    refine lv_bipush (v := (59 : Int32)) hx hb dX4_readOrder_163 (by decide) ?_
    obtain ⟨q35, hq35, hf⟩ := ob hf
    refine cl_WV (W1 := (w_orders cI cC h0 h1 sg oL q35.2 q1 oF oS oD oP oR oU)) (As := [.int (59 : Int32)]) (rest := []) hF hP hD hS (c_X4_passSign h0 h1 (59 : Int32) sg oL v34 q1 oF oS oD oP oR oU q35 hq35) (cwV 1 hts gX4_readOrder_X4_passSign rfl rfl rfl (by decide +kernel) ⟨(Nat.le_of_ble_eq_true rfl), (Nat.le_of_ble_eq_true rfl)⟩) [0, 1] rfl (by decide +kernel) (va_recv hK hP (ci := 4) (q0 := 0) rfl rfl) rfl rfl hl.1 (Nat.le_of_ble_eq_true rfl) dX4_readOrder_165 ⟨Nat.zero_le _, Nat.zero_le _⟩ (hA2 [h0, h1] rfl rfl) [] rfl [] rfl rfl (nW := 2) rfl (by decide +kernel) (fun H locs hP hD hS => ?_)
    obtain ⟨hg36, hf⟩ := gd_s hf
    obtain rfl := Option.some.inj hf
    exact ret 168 ls _ H locs dX4_readOrder_168 (zb_ok hg36) rfl hP hS
  replace hf := ie hc33 hf
  by_cases hc37 : q1 = 115
  · replace hf := it hc37 hf
    refine lv_lookup (off := 140) (tgt := 152) hx hb dX4_readOrder_12 (by decide) (by rw [hc37]; decide) (by decide) ?_
    refine lv_aload_n hx hb dX4_readOrder_152 rfl (lv_at hl 0 rfl) ?_
    refine lv_dup hx hb dX4_readOrder_153 rfl ?_
    refine va_get hx hb hts n4_ hown hK hP 0 rfl rfl 2 (Nat.le_of_ble_eq_true rfl) k2_ (fun _ h => h) rfl dX4_readOrder_154 ?_
    refine lv_iconst (v := (1 : Int32)) hx hb dX4_readOrder_157 (by decide) ?_
    refine lv_iadd hx hb dX4_readOrder_158 ?_
    refine lv_topi (fun v38 ev38 => ?_)
    replace hf := lt_e ev38 hf
    refine va_put hx hb hts n4_ tyX4 tyX4_ok nmX4 hown hK hP hD hS 0 rfl rfl 2 (Nat.le_of_ble_eq_true rfl) k2_ (fun _ h => h) rfl (v := .int v38) (tyX4_ok 2 (Nat.le_of_ble_eq_true rfl)) rfl rfl (Nat.le_of_ble_eq_true rfl) dX4_readOrder_159 (fun H locs hP hD hS => ?_)
    have hP : va_P D vwCl (w_orders cI cC h0 h1 sg oL v38 q1 oF oS oD oP oR oU) H := hP
    have hD : va_D AA (w_orders cI cC h0 h1 sg oL v38 q1 oF oS oD oP oR oU) := hD
    refine lv_aload_n hx hb dX4_readOrder_162 rfl (lv_at hl 0 rfl) ?_
    refine lv_bipush (v := (59 : Int32)) hx hb dX4_readOrder_163 (by decide) ?_
    obtain ⟨q39, hq39, hf⟩ := ob hf
    refine cl_WV (W1 := (w_orders cI cC h0 h1 sg oL q39.2 q1 oF oS oD oP oR oU)) (As := [.int (59 : Int32)]) (rest := []) hF hP hD hS (c_X4_passSign h0 h1 (59 : Int32) sg oL v38 q1 oF oS oD oP oR oU q39 hq39) (cwV 1 hts gX4_readOrder_X4_passSign rfl rfl rfl (by decide +kernel) ⟨(Nat.le_of_ble_eq_true rfl), (Nat.le_of_ble_eq_true rfl)⟩) [0, 1] rfl (by decide +kernel) (va_recv hK hP (ci := 4) (q0 := 0) rfl rfl) rfl rfl hl.1 (Nat.le_of_ble_eq_true rfl) dX4_readOrder_165 ⟨Nat.zero_le _, Nat.zero_le _⟩ (hA2 [h0, h1] rfl rfl) [] rfl [] rfl rfl (nW := 2) rfl (by decide +kernel) (fun H locs hP hD hS => ?_)
    obtain ⟨hg40, hf⟩ := gd_s hf
    obtain rfl := Option.some.inj hf
    exact ret 168 ls _ H locs dX4_readOrder_168 (zb_ok hg40) rfl hP hS
  replace hf := ie hc37 hf
  by_cases hc41 : q1 = 119
  · replace hf := it hc41 hf
    refine lv_lookup (off := 108) (tgt := 120) hx hb dX4_readOrder_12 (by decide) (by rw [hc41]; decide) (by decide) ?_
    refine lv_aload_n hx hb dX4_readOrder_120 rfl (lv_at hl 0 rfl) ?_
    refine lv_dup hx hb dX4_readOrder_121 rfl ?_
    refine va_get hx hb hts n4_ hown hK hP 0 rfl rfl 2 (Nat.le_of_ble_eq_true rfl) k2_ (fun _ h => h) rfl dX4_readOrder_122 ?_
    refine lv_iconst (v := (1 : Int32)) hx hb dX4_readOrder_125 (by decide) ?_
    refine lv_iadd hx hb dX4_readOrder_126 ?_
    refine lv_topi (fun v42 ev42 => ?_)
    replace hf := lt_e ev42 hf
    refine va_put hx hb hts n4_ tyX4 tyX4_ok nmX4 hown hK hP hD hS 0 rfl rfl 2 (Nat.le_of_ble_eq_true rfl) k2_ (fun _ h => h) rfl (v := .int v42) (tyX4_ok 2 (Nat.le_of_ble_eq_true rfl)) rfl rfl (Nat.le_of_ble_eq_true rfl) dX4_readOrder_127 (fun H locs hP hD hS => ?_)
    have hP : va_P D vwCl (w_orders cI cC h0 h1 sg oL v42 q1 oF oS oD oP oR oU) H := hP
    have hD : va_D AA (w_orders cI cC h0 h1 sg oL v42 q1 oF oS oD oP oR oU) := hD
    refine lv_aload_n hx hb dX4_readOrder_130 rfl (lv_at hl 0 rfl) ?_
    obtain ⟨q43, hq43, hf⟩ := ob hf
    refine cl_WV (W1 := (w_orders cI cC h0 h1 sg oL q43.2.1 q1 q43.2.2 oS oD oP oR oU)) (As := []) (rest := []) hF hP hD hS (c_X4_readFirstNumber h0 h1 sg oL v42 q1 oF oS oD oP oR oU q43 hq43) (cwV 0 hts gX4_readOrder_X4_readFirstNumber rfl rfl rfl (by decide +kernel) ⟨(Nat.le_of_ble_eq_true rfl), (Nat.le_of_ble_eq_true rfl)⟩) [0, 1] rfl (by decide +kernel) (va_recv hK hP (ci := 4) (q0 := 0) rfl rfl) rfl rfl hl.1 (Nat.le_of_ble_eq_true rfl) dX4_readOrder_131 ⟨Nat.zero_le _, Nat.zero_le _⟩ (hA2 [h0, h1] rfl rfl) [] rfl [] rfl rfl (nW := 2) rfl (by decide +kernel) (fun H locs hP hD hS => ?_)
    refine lv_if_eq (tgt := 150) hx hb dX4_readOrder_134 (by decide) (fun hc44 => ?_) (fun hc44 => ?_)
    · replace hf := it hc44 hf
      refine lv_iconst (v := (0 : Int32)) hx hb dX4_readOrder_150 (by decide) ?_
      obtain rfl := Option.some.inj hf
      exact ret 151 ls _ H locs dX4_readOrder_151 (by decide) rfl hP hS
    · replace hf := ie hc44 hf
      refine lv_aload_n hx hb dX4_readOrder_137 rfl (lv_at hl 0 rfl) ?_
      refine lv_bipush (v := (59 : Int32)) hx hb dX4_readOrder_138 (by decide) ?_
      obtain ⟨q45, hq45, hf⟩ := ob hf
      refine cl_WV (W1 := (w_orders cI cC h0 h1 sg oL q45.2 q1 q43.2.2 oS oD oP oR oU)) (As := [.int (59 : Int32)]) (rest := []) hF hP hD hS (c_X4_passSign h0 h1 (59 : Int32) sg oL q43.2.1 q1 q43.2.2 oS oD oP oR oU q45 hq45) (cwV 1 hts gX4_readOrder_X4_passSign rfl rfl rfl (by decide +kernel) ⟨(Nat.le_of_ble_eq_true rfl), (Nat.le_of_ble_eq_true rfl)⟩) [0, 1] rfl (by decide +kernel) (va_recv hK hP (ci := 4) (q0 := 0) rfl rfl) rfl rfl hl.1 (Nat.le_of_ble_eq_true rfl) dX4_readOrder_140 ⟨Nat.zero_le _, Nat.zero_le _⟩ (hA2 [h0, h1] rfl rfl) [] rfl [] rfl rfl (nW := 2) rfl (by decide +kernel) (fun H locs hP hD hS => ?_)
      refine lv_if_eq (tgt := 150) hx hb dX4_readOrder_143 (by decide) (fun hc46 => ?_) (fun hc46 => ?_)
      · replace hf := it hc46 hf
        refine lv_iconst (v := (0 : Int32)) hx hb dX4_readOrder_150 (by decide) ?_
        obtain rfl := Option.some.inj hf
        exact ret 151 ls _ H locs dX4_readOrder_151 (by decide) rfl hP hS
      · replace hf := ie hc46 hf
        refine lv_iconst (v := (1 : Int32)) hx hb dX4_readOrder_146 (by decide) ?_
        refine lv_goto (tgt := 151) hx hb dX4_readOrder_147 (by decide) ?_
        obtain rfl := Option.some.inj hf
        exact ret 151 ls _ H locs dX4_readOrder_151 (by decide) rfl hP hS
  replace hf := ie hc41 hf
  refine lv_lookup (off := 157) (tgt := 169) hx hb dX4_readOrder_12 (by decide) (by show Op.lookupswitch.offset [(98, 60), (102, 60), (103, 60), (112, 140), (115, 140), (119, 108)] 157 q1.toInt = _; rw [lv_osw (a := 98) hc3 rfl, lv_osw (a := 102) hc13 rfl, lv_osw (a := 103) hc23 rfl, lv_osw (a := 112) hc33 rfl, lv_osw (a := 115) hc37 rfl, lv_osw (a := 119) hc41 rfl]; rfl) (by decide) ?_
  refine lv_iconst (v := (0 : Int32)) hx hb dX4_readOrder_169 (by decide) ?_
  obtain rfl := Option.some.inj hf
  exact ret 170 ls _ H locs dX4_readOrder_170 (by decide) rfl hP hS
abbrev rmX4_blame : Room := { frames := 1, cells := 0, slots := 0, locals := 0 }
set_option maxHeartbeats 4000000 in
set_option maxRecDepth 100000 in
theorem c_X4_blame (h0 : Nat) (h1 : Nat) (x1 : Int32) (x2 : Int32) (x3 : Int32) (sg : Nat → Int32) (oL : Int32) (oA : Int32) (oC : Int32) (oF : Int32) (oS : Int32) (oD : Int32) (oP : Int32) (oR : Int32) (oU : Int32) (R : Int32 × Int32 × Int32) (hf : f_X4_blame x1 x2 x3 oP oR oU = some R) : WrV l yX4_blame wsX4_blame rmX4_blame D cI cC (w_orders cI cC h0 h1 sg oL oA oC oF oS oD oP oR oU) (w_orders cI cC h0 h1 sg oL oA oC oF oS oD R.1 R.2.1 R.2.2) [.ref h0, .int x1, .int x2, .int x3] := by
  refine en_V (cc := cX4_blame) (n := 4) (by decide) rfl (Nat.le_of_ble_eq_true rfl) ?_
  intro p e s m args below meth c Q AA ls hx hb hml hown hts hK hN hP hD hS hl ret
  have hown : s.vm.findClass RX4 = some m.cls := hown
  have hF : FX p m c cX4_blame 4 s args wsX4_blame RX4 D cI cC := ⟨⟨hx, hb, hml, hown, hts⟩, hK, hN⟩
  have hl : lv_has ls 4 [(0, .ref h0), (1, .int x1), (2, .int x2), (3, .int x3)] := hl
  have k1_ := hts (.fieldLink RX4 28 "DriftGrinders$Orders" "faultPosition" "I") (List.mem_of_getElem? (i := 1) rfl)
  have k2_ := hts (.fieldLink RX4 20 "DriftGrinders$Orders" "faultReason" "I") (List.mem_of_getElem? (i := 2) rfl)
  have k3_ := hts (.fieldLink RX4 31 "DriftGrinders$Orders" "faultCause" "I") (List.mem_of_getElem? (i := 3) rfl)
  have n4_ : ∀ w ∈ wsX40, w ∈ wsX4_blame := fun _ h => List.mem_cons_of_mem _ (List.mem_append_right _ h)
  rw [f_X4_blame] at hf
  obtain ⟨H, hH⟩ : ∃ z : Heap, z = s.heap := ⟨_, rfl⟩
  obtain ⟨locs, hL⟩ : ∃ z : List Loc, z = [] := ⟨_, rfl⟩
  replace hP := hH ▸ hP
  replace hS : va_S AA s.heap H locs := by rw [hH, hL]; exact hS
  suffices hgoal : W p l e rmX4_blame s m args below meth c H locs 0 0 Q (F0 m 0 ls []) by rw [hH, hL] at hgoal; exact hgoal
  clear hH hL
  refine lv_aload_n hx hb dX4_blame_0 rfl (lv_at hl 0 rfl) ?_
  refine lv_iload_n hx hb dX4_blame_1 rfl (lv_at hl 1 rfl) ?_
  refine va_put hx hb hts n4_ tyX4 tyX4_ok nmX4 hown hK hP hD hS 0 rfl rfl 7 (Nat.le_of_ble_eq_true rfl) k1_ (fun _ h => h) rfl (v := .int x1) (tyX4_ok 7 (Nat.le_of_ble_eq_true rfl)) rfl rfl (Nat.le_of_ble_eq_true rfl) dX4_blame_2 (fun H locs hP hD hS => ?_)
  have hP : va_P D vwCl (w_orders cI cC h0 h1 sg oL oA oC oF oS oD x1 oR oU) H := hP
  have hD : va_D AA (w_orders cI cC h0 h1 sg oL oA oC oF oS oD x1 oR oU) := hD
  refine lv_aload_n hx hb dX4_blame_5 rfl (lv_at hl 0 rfl) ?_
  refine lv_iload_n hx hb dX4_blame_6 rfl (lv_at hl 2 rfl) ?_
  refine va_put hx hb hts n4_ tyX4 tyX4_ok nmX4 hown hK hP hD hS 0 rfl rfl 8 (Nat.le_of_ble_eq_true rfl) k2_ (fun _ h => h) rfl (v := .int x2) (tyX4_ok 8 (Nat.le_of_ble_eq_true rfl)) rfl rfl (Nat.le_of_ble_eq_true rfl) dX4_blame_7 (fun H locs hP hD hS => ?_)
  have hP : va_P D vwCl (w_orders cI cC h0 h1 sg oL oA oC oF oS oD x1 x2 oU) H := hP
  have hD : va_D AA (w_orders cI cC h0 h1 sg oL oA oC oF oS oD x1 x2 oU) := hD
  refine lv_aload_n hx hb dX4_blame_10 rfl (lv_at hl 0 rfl) ?_
  refine lv_iload_n hx hb dX4_blame_11 rfl (lv_at hl 3 rfl) ?_
  refine va_put hx hb hts n4_ tyX4 tyX4_ok nmX4 hown hK hP hD hS 0 rfl rfl 9 (Nat.le_of_ble_eq_true rfl) k3_ (fun _ h => h) rfl (v := .int x3) (tyX4_ok 9 (Nat.le_of_ble_eq_true rfl)) rfl rfl (Nat.le_of_ble_eq_true rfl) dX4_blame_12 (fun H locs hP hD hS => ?_)
  have hP : va_P D vwCl (w_orders cI cC h0 h1 sg oL oA oC oF oS oD x1 x2 x3) H := hP
  have hD : va_D AA (w_orders cI cC h0 h1 sg oL oA oC oF oS oD x1 x2 x3) := hD
  obtain rfl := Option.some.inj hf
  exact ret 15 ls H locs dX4_blame_15 hP hS
end
