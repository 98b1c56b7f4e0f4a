section
variable {l : Launch} {D : va_G} {cI cC : ClassId}

def w_shots (cI cC : ClassId) (h0 : Nat) (h1 : Nat) (sF : Nat → Int32) (sk : Int32) (sm : Int32) : va_W := [(h0, .inr (6, [.ref h1, .int sk, .int sm])), (h1, .inl (cI, 96, .inl sF))]
def w_shots2 (cI cC : ClassId) (h0 : Nat) (h1 : Nat) (h2 : Nat) (h3 : Nat) (sF : Nat → Int32) (sk : Int32) (sm : Int32) (sF2 : Nat → Int32) (sk2 : Int32) (sm2 : Int32) : va_W := [(h0, .inr (6, [.ref h1, .int sk, .int sm])), (h1, .inl (cI, 96, .inl sF)), (h2, .inr (6, [.ref h3, .int sk2, .int sm2])), (h3, .inl (cI, 96, .inl sF2))]
abbrev rmX6_latestTime : Room := { frames := 1, cells := 0, slots := 0, locals := 0 }
set_option maxHeartbeats 4000000 in
set_option maxRecDepth 100000 in
theorem c_X6_latestTime (h0 : Nat) (h1 : Nat) (sF : Nat → Int32) (sk : Int32) (sm : Int32) (R : Int32) (hf : f_X6_latestTime sF = some R) : RdI l yX6_latestTime wsX6_latestTime rmX6_latestTime D cI cC (w_shots cI cC h0 h1 sF sk sm) [.ref h0] R := by
  refine en_R (cc := cX6_latestTime) (n := 1) (by decide) rfl (Nat.le_of_ble_eq_true rfl) ?_
  intro p e s m args below meth c Q AA ls hx hb hml hown hts hK hN hP hD hl ret
  have hown : s.vm.findClass RX6 = some m.cls := hown
  have hF : FX p m c cX6_latestTime 1 s args wsX6_latestTime RX6 D cI cC := ⟨⟨hx, hb, hml, hown, hts⟩, hK, hN⟩
  have hl : lv_has ls 1 [(0, .ref h0)] := hl
  have k1_ := hts (.fieldLink RX6 11 "DriftGrinders$Shots" "facts" "[I") (List.mem_of_getElem? (i := 1) rfl)
  have n6_ : ∀ w ∈ wsX60, w ∈ wsX6_latestTime := fun _ h => List.mem_cons_of_mem _ (List.mem_append_right _ h)
  rw [f_X6_latestTime] at hf
  refine lv_aload_n hx hb dX6_latestTime_0 rfl (lv_at hl 0 rfl) ?_
  refine va_get hx hb hts n6_ hown hK hP 0 rfl rfl 0 (Nat.le_of_ble_eq_true rfl) k1_ (fun _ h => h) rfl dX6_latestTime_1 ?_
  refine lv_iconst (v := (1 : Int32)) hx hb dX6_latestTime_4 (by decide) ?_
  refine va_iald hx hb hK hP 1 0 rfl rfl (show ¬ ((1 : Int32) < 0 ∨ 96 ≤ (1 : Int32).toNatClampNeg) by decide) dX6_latestTime_5 ?_
  obtain rfl := Option.some.inj hf
  exact ret 6 ls _ dX6_latestTime_6 rfl rfl
abbrev rmX6_awayFrom : Room := { frames := 1, cells := 0, slots := 0, locals := 21 }
set_option maxHeartbeats 4000000 in
set_option maxRecDepth 100000 in
theorem c_X6_awayFrom (h0 : Nat) (h1 : Nat) (x1 : Int32) (x2 : Int32) (sF : Nat → Int32) (sk : Int32) (sm : Int32) (R : Int32) (hf : f_X6_awayFrom x1 x2 sF = some R) : RdI l yX6_awayFrom wsX6_awayFrom rmX6_awayFrom D cI cC (w_shots cI cC h0 h1 sF sk sm) [.ref h0, .int x1, .int x2] R := by
  refine en_R (cc := cX6_awayFrom) (n := 3) (by decide) rfl (Nat.le_of_ble_eq_true rfl) ?_
  intro p e s m args below meth c Q AA ls hx hb hml hown hts hK hN hP hD hl ret
  have hown : s.vm.findClass RX6 = some m.cls := hown
  have hF : FX p m c cX6_awayFrom 3 s args wsX6_awayFrom RX6 D cI cC := ⟨⟨hx, hb, hml, hown, hts⟩, hK, hN⟩
  have hl : lv_has ls 3 [(0, .ref h0), (1, .int x1), (2, .int x2)] := hl
  have k1_ := hts (.fieldLink RX6 11 "DriftGrinders$Shots" "facts" "[I") (List.mem_of_getElem? (i := 1) rfl)
  have k2_ := hts (.methodLink RX6 38 Lib.Math.abs.name) (List.mem_of_getElem? (i := 2) rfl)
  have k3_ := hts (.static Lib.Math.abs.name) (List.mem_of_getElem? (i := 3) rfl)
  have k4_ := hts (.initialized "java/lang/Math") (List.mem_of_getElem? (i := 4) rfl)
  have k5_ := hts (.code Lib.Math.abs.name Lib.Math.abs.code 1 (some .int)) (List.mem_of_getElem? (i := 5) rfl)
  have n6_ : ∀ w ∈ wsX60, w ∈ wsX6_awayFrom := fun _ h => List.mem_cons_of_mem _ (List.mem_append_right _ h)
  rw [f_X6_awayFrom] at hf
  refine lv_aload_n hx hb dX6_awayFrom_0 rfl (lv_at hl 0 rfl) ?_
  refine va_get hx hb hts n6_ hown hK hP 0 rfl rfl 0 (Nat.le_of_ble_eq_true rfl) k1_ (fun _ h => h) rfl dX6_awayFrom_1 ?_
  refine lv_iload_n hx hb dX6_awayFrom_4 rfl (lv_at hl 2 rfl) ?_
  refine lv_bipush (v := (8 : Int32)) hx hb dX6_awayFrom_5 (by decide) ?_
  refine lv_imul hx hb dX6_awayFrom_7 ?_
  refine lv_iconst (v := (1 : Int32)) hx hb dX6_awayFrom_8 (by decide) ?_
  refine lv_iadd hx hb dX6_awayFrom_9 ?_
  obtain ⟨hg1, hf⟩ := gd_s hf
  refine va_iald hx hb hK hP 1 0 rfl rfl hg1 dX6_awayFrom_10 ?_
  refine lv_iload_n hx hb dX6_awayFrom_11 rfl (lv_at hl 1 rfl) ?_
  refine lv_isub hx hb dX6_awayFrom_12 ?_
  refine va_mabs hx hb (hml.trans hl.1.symm) hown k2_ k3_ k4_ k5_ (Nat.le_of_ble_eq_true rfl) (Nat.le_of_ble_eq_true rfl) (Nat.zero_le _) (Nat.zero_le _) dX6_awayFrom_13 ?_
  refine lv_topi (fun v2 ev2 => ?_)
  replace hf := lt_e ev2 hf
  obtain rfl := Option.some.inj hf
  exact ret 16 ls _ dX6_awayFrom_16 rfl rfl
abbrev rmX6_tell : Room := { frames := 2, cells := 0, slots := 0, locals := 43 }
set_option maxHeartbeats 4000000 in
set_option maxRecDepth 100000 in
theorem c_X6_tell (h0 : Nat) (h1 : Nat) (x1 : Int32) (x2 : Int32) (x3 : Int32) (sF : Nat → Int32) (sk : Int32) (sm : Int32) (R : Int32) (hf : f_X6_tell x1 x2 x3 sF sk = some R) : RdI l yX6_tell wsX6_tell rmX6_tell D cI cC (w_shots cI cC h0 h1 sF sk sm) [.ref h0, .int x1, .int x2, .int x3] R := by
  refine en_R (cc := cX6_tell) (n := 4) (by decide) rfl (Nat.le_of_ble_eq_true rfl) ?_
  intro p e s m args below meth c Q AA ls hx hb hml hown hts hK hN hP hD hl ret
  have hown : s.vm.findClass RX6 = some m.cls := hown
  have hF : FX p m c cX6_tell 4 s args wsX6_tell RX6 D cI cC := ⟨⟨hx, hb, hml, hown, hts⟩, hK, hN⟩
  have hl : lv_has ls 4 [(0, .ref h0), (1, .int x1), (2, .int x2), (3, .int x3)] := hl
  have k1_ := hts (.fieldLink RX6 21 "DriftGrinders$Shots" "kept" "I") (List.mem_of_getElem? (i := 1) rfl)
  have k2_ := hts (.constant RX6 34 (-1000004)) (List.mem_of_getElem? (i := 2) rfl)
  have k3_ := hts (.fieldLink RX6 11 "DriftGrinders$Shots" "facts" "[I") (List.mem_of_getElem? (i := 3) rfl)
  have n6_ : ∀ w ∈ wsX60, w ∈ wsX6_tell := fun _ h => List.mem_cons_of_mem _ (List.mem_append_right _ h)
  rw [f_X6_tell] at hf
  refine lv_iload_n hx hb dX6_tell_0 rfl (lv_at hl 1 rfl) ?_
  refine lv_if_lt (tgt := 22) hx hb dX6_tell_1 (by decide) (fun hc1 => ?_) (fun hc1 => ?_)
  · replace hf := it hc1 hf
    refine lv_ldc hx hb hown k2_ dX6_tell_22 ?_
    obtain rfl := Option.some.inj hf
    exact ret 24 ls _ dX6_tell_24 rfl rfl
  · replace hf := ie hc1 hf
    refine lv_iload_n hx hb dX6_tell_4 rfl (lv_at hl 1 rfl) ?_
    refine lv_aload_n hx hb dX6_tell_5 rfl (lv_at hl 0 rfl) ?_
    refine va_get hx hb hts n6_ hown hK hP 0 rfl rfl 1 (Nat.le_of_ble_eq_true rfl) k1_ (fun _ h => h) rfl dX6_tell_6 ?_
    refine lv_icmp_ge (tgt := 22) hx hb dX6_tell_9 (by decide) (fun hc2 => ?_) (fun hc2 => ?_)
    · replace hf := it hc2 hf
      refine lv_ldc hx hb hown k2_ dX6_tell_22 ?_
      obtain rfl := Option.some.inj hf
      exact ret 24 ls _ dX6_tell_24 rfl rfl
    · replace hf := ie hc2 hf
      refine lv_iload_n hx hb dX6_tell_12 rfl (lv_at hl 2 rfl) ?_
      refine lv_if_lt (tgt := 22) hx hb dX6_tell_13 (by decide) (fun hc3 => ?_) (fun hc3 => ?_)
      · replace hf := it hc3 hf
        refine lv_ldc hx hb hown k2_ dX6_tell_22 ?_
        obtain rfl := Option.some.inj hf
        exact ret 24 ls _ dX6_tell_24 rfl rfl
      · replace hf := ie hc3 hf
        refine lv_iload_n hx hb dX6_tell_16 rfl (lv_at hl 2 rfl) ?_
        refine lv_bipush (v := (8 : Int32)) hx hb dX6_tell_17 (by decide) ?_
        refine lv_icmp_lt (tgt := 25) hx hb dX6_tell_19 (by decide) (fun hc4 => ?_) (fun hc4 => ?_)
        · replace hf := it hc4 hf
          refine lv_iload_n hx hb dX6_tell_25 rfl (lv_at hl 2 rfl) ?_
          refine lv_iconst (v := (5 : Int32)) hx hb dX6_tell_26 (by decide) ?_
          refine lv_icmp_ne (tgt := 39) hx hb dX6_tell_27 (by decide) (fun hc5 => ?_) (fun hc5 => ?_)
          · replace hf := ie hc5 hf
            refine lv_aload_n hx hb dX6_tell_39 rfl (lv_at hl 0 rfl) ?_
            refine va_get hx hb hts n6_ hown hK hP 0 rfl rfl 0 (Nat.le_of_ble_eq_true rfl) k3_ (fun _ h => h) rfl dX6_tell_40 ?_
            refine lv_iload_n hx hb dX6_tell_43 rfl (lv_at hl 1 rfl) ?_
            refine lv_bipush (v := (8 : Int32)) hx hb dX6_tell_44 (by decide) ?_
            refine lv_imul hx hb dX6_tell_46 ?_
            refine lv_iload_n hx hb dX6_tell_47 rfl (lv_at hl 2 rfl) ?_
            refine lv_iadd hx hb dX6_tell_48 ?_
            obtain ⟨hg6, hf⟩ := gd_s hf
            refine va_iald hx hb hK hP 1 0 rfl rfl hg6 dX6_tell_49 ?_
            obtain rfl := Option.some.inj hf
            exact ret 50 ls _ dX6_tell_50 rfl rfl
          · replace hf := it hc5 hf
            refine lv_aload_n hx hb dX6_tell_30 rfl (lv_at hl 0 rfl) ?_
            refine lv_iload_n hx hb dX6_tell_31 rfl (lv_at hl 3 rfl) ?_
            refine lv_iload_n hx hb dX6_tell_32 rfl (lv_at hl 1 rfl) ?_
            obtain ⟨q7, hq7, hf⟩ := ob hf
            refine cl_RV (As := [.int x3, .int x1]) (rest := []) hF hP hD (c_X6_awayFrom h0 h1 x3 x1 sF sk sm q7 hq7) (cwV 2 hts gX6_tell_X6_awayFrom rfl rfl rfl (by decide +kernel) ⟨(Nat.le_of_ble_eq_true rfl), (Nat.le_of_ble_eq_true rfl)⟩) [0, 1] rfl (by decide +kernel) (va_recv hK hP (ci := 6) (q0 := 0) rfl rfl) rfl rfl hl.1 (Nat.le_of_ble_eq_true rfl) dX6_tell_33 ⟨Nat.zero_le _, Nat.zero_le _⟩ ?_
            refine lv_goto (tgt := 50) hx hb dX6_tell_36 (by decide) ?_
            obtain rfl := Option.some.inj hf
            exact ret 50 ls _ dX6_tell_50 rfl rfl
        · replace hf := ie hc4 hf
          refine lv_ldc hx hb hown k2_ dX6_tell_22 ?_
          obtain rfl := Option.some.inj hf
          exact ret 24 ls _ dX6_tell_24 rfl rfl
abbrev rmX6_add : Room := { frames := 1, cells := 0, slots := 0, locals := 60 }
set_option maxHeartbeats 4000000 in
set_option maxRecDepth 100000 in
theorem c_X6_add (h0 : Nat) (h1 : Nat) (x1 : Int32) (x2 : Int32) (x3 : Int32) (x4 : Int32) (x5 : Int32) (x6 : Int32) (sF : Nat → Int32) (sk : Int32) (sm : Int32) (R : (Nat → Int32) × Int32 × Int32) (hf : f_X6_add x1 x2 x3 x4 x5 x6 sF sk sm = some R) : WrV l yX6_add wsX6_add rmX6_add D cI cC (w_shots cI cC h0 h1 sF sk sm) (w_shots cI cC h0 h1 R.1 R.2.1 R.2.2) [.ref h0, .int x1, .int x2, .int x3, .int x4, .int x5, .int x6] := by
  refine en_V (cc := cX6_add) (n := 7) (by decide) rfl (Nat.le_of_ble_eq_true rfl) ?_
  intro p e s m args below meth c Q AA ls hx hb hml hown hts hK hN hP hD hS hl ret
  have hown : s.vm.findClass RX6 = some m.cls := hown
  have hF : FX p m c cX6_add 7 s args wsX6_add RX6 D cI cC := ⟨⟨hx, hb, hml, hown, hts⟩, hK, hN⟩
  have hl : lv_has ls 7 [(0, .ref h0), (1, .int x1), (2, .int x2), (3, .int x3), (4, .int x4), (5, .int x5), (6, .int x6)] := hl
  have k10_ := hts (.initialized "java/lang/Math") (List.mem_of_getElem? (i := 10) rfl)
  have k11_ := hts (.code Lib.Math.min.name Lib.Math.min.code 2 (some .int)) (List.mem_of_getElem? (i := 11) rfl)
  have k1_ := hts (.fieldLink RX6 11 "DriftGrinders$Shots" "facts" "[I") (List.mem_of_getElem? (i := 1) rfl)
  have k2_ := hts (.methodLink RX6 15 arraycopyName) (List.mem_of_getElem? (i := 2) rfl)
  have k3_ := hts (.native arraycopyName) (List.mem_of_getElem? (i := 3) rfl)
  have k4_ := hts (.static arraycopyName) (List.mem_of_getElem? (i := 4) rfl)
  have k5_ := hts (.initialized "java/lang/System") (List.mem_of_getElem? (i := 5) rfl)
  have k6_ := hts (.fieldLink RX6 25 "DriftGrinders$Shots" "made" "I") (List.mem_of_getElem? (i := 6) rfl)
  have k7_ := hts (.fieldLink RX6 21 "DriftGrinders$Shots" "kept" "I") (List.mem_of_getElem? (i := 7) rfl)
  have k8_ := hts (.methodLink RX6 28 Lib.Math.min.name) (List.mem_of_getElem? (i := 8) rfl)
  have k9_ := hts (.static Lib.Math.min.name) (List.mem_of_getElem? (i := 9) rfl)
  have n6_ : ∀ w ∈ wsX60, w ∈ wsX6_add := fun _ h => List.mem_cons_of_mem _ (List.mem_append_right _ h)
  rw [f_X6_add] at hf
  obtain ⟨H, hH⟩ : ∃ z : Heap, z = s.heap := ⟨_, rfl⟩
  obtain ⟨locs, hL⟩ : ∃ z : List Loc, z = [] := ⟨_, rfl⟩
  replace hP := hH ▸ hP
  replace hS : va_S AA s.heap H locs := by rw [hH, hL]; exact hS
  suffices hgoal : W p l e rmX6_add s m args below meth c H locs 0 0 Q (F0 m 0 ls []) by rw [hH, hL] at hgoal; exact hgoal
  clear hH hL
  refine lv_aload_n hx hb dX6_add_0 rfl (lv_at hl 0 rfl) ?_
  refine va_get hx hb hts n6_ hown hK hP 0 rfl rfl 0 (Nat.le_of_ble_eq_true rfl) k1_ (fun _ h => h) rfl dX6_add_1 ?_
  refine lv_iconst (v := (0 : Int32)) hx hb dX6_add_4 (by decide) ?_
  refine lv_aload_n hx hb dX6_add_5 rfl (lv_at hl 0 rfl) ?_
  refine va_get hx hb hts n6_ hown hK hP 0 rfl rfl 0 (Nat.le_of_ble_eq_true rfl) k1_ (fun _ h => h) rfl dX6_add_6 ?_
  refine lv_bipush (v := (8 : Int32)) hx hb dX6_add_9 (by decide) ?_
  refine lv_aload_n hx hb dX6_add_11 rfl (lv_at hl 0 rfl) ?_
  refine va_get hx hb hts n6_ hown hK hP 0 rfl rfl 0 (Nat.le_of_ble_eq_true rfl) k1_ (fun _ h => h) rfl dX6_add_12 ?_
  refine va_alen hx hb hK hP 1 0 rfl rfl (v := (96 : Int32)) rfl dX6_add_15 ?_
  refine lv_bipush (v := (8 : Int32)) hx hb dX6_add_16 (by decide) ?_
  refine lv_isub hx hb dX6_add_18 ?_
  obtain ⟨hg1, hf⟩ := gd_s hf
  refine x_copy hx hb (hml.trans hl.1.symm) hown k2_ k3_ k4_ k5_ hK hP hD hS 1 1 0 0 rfl rfl rfl rfl rfl hg1.1 hg1.2.1 hg1.2.2.1 hg1.2.2.2.1 hg1.2.2.2.2 (fun _ _ => rfl) (Nat.le_of_ble_eq_true rfl) (Nat.le_of_ble_eq_true rfl) dX6_add_19 (fun Z2 H locs eZ2 hP hD hS => ?_)
  replace hf := lt_e eZ2 hf
  have hP : va_P D vwCl (w_shots cI cC h0 h1 Z2 sk sm) H := hP
  have hD : va_D AA (w_shots cI cC h0 h1 Z2 sk sm) := hD
  refine lv_aload_n hx hb dX6_add_22 rfl (lv_at hl 0 rfl) ?_
  refine va_get hx hb hts n6_ hown hK hP 0 rfl rfl 0 (Nat.le_of_ble_eq_true rfl) k1_ (fun _ h => h) rfl dX6_add_23 ?_
  refine lv_iconst (v := (0 : Int32)) hx hb dX6_add_26 (by decide) ?_
  refine lv_aload_n hx hb dX6_add_27 rfl (lv_at hl 0 rfl) ?_
  refine va_get hx hb hts n6_ hown hK hP 0 rfl rfl 2 (Nat.le_of_ble_eq_true rfl) k6_ (fun _ h => h) rfl dX6_add_28 ?_
  refine x_iast hx hb hK hP hD hS 1 0 rfl rfl (show ¬ ((0 : Int32) < 0 ∨ 96 ≤ (0 : Int32).toNatClampNeg) by decide) dX6_add_31 (fun Z3 H locs eZ3 hP hD hS => ?_)
  replace hf := lt_e eZ3 hf
  have hP : va_P D vwCl (w_shots cI cC h0 h1 Z3 sk sm) H := hP
  have hD : va_D AA (w_shots cI cC h0 h1 Z3 sk sm) := hD
  refine lv_aload_n hx hb dX6_add_32 rfl (lv_at hl 0 rfl) ?_
  refine va_get hx hb hts n6_ hown hK hP 0 rfl rfl 0 (Nat.le_of_ble_eq_true rfl) k1_ (fun _ h => h) rfl dX6_add_33 ?_
  refine lv_iconst (v := (1 : Int32)) hx hb dX6_add_36 (by decide) ?_
  refine lv_iload_n hx hb dX6_add_37 rfl (lv_at hl 1 rfl) ?_
  refine x_iast hx hb hK hP hD hS 1 0 rfl rfl (show ¬ ((1 : Int32) < 0 ∨ 96 ≤ (1 : Int32).toNatClampNeg) by decide) dX6_add_38 (fun Z4 H locs eZ4 hP hD hS => ?_)
  replace hf := lt_e eZ4 hf
  have hP : va_P D vwCl (w_shots cI cC h0 h1 Z4 sk sm) H := hP
  have hD : va_D AA (w_shots cI cC h0 h1 Z4 sk sm) := hD
  refine lv_aload_n hx hb dX6_add_39 rfl (lv_at hl 0 rfl) ?_
  refine va_get hx hb hts n6_ hown hK hP 0 rfl rfl 0 (Nat.le_of_ble_eq_true rfl) k1_ (fun _ h => h) rfl dX6_add_40 ?_
  refine lv_iconst (v := (2 : Int32)) hx hb dX6_add_43 (by decide) ?_
  refine lv_iload_n hx hb dX6_add_44 rfl (lv_at hl 2 rfl) ?_
  refine x_iast hx hb hK hP hD hS 1 0 rfl rfl (show ¬ ((2 : Int32) < 0 ∨ 96 ≤ (2 : Int32).toNatClampNeg) by decide) dX6_add_45 (fun Z5 H locs eZ5 hP hD hS => ?_)
  replace hf := lt_e eZ5 hf
  have hP : va_P D vwCl (w_shots cI cC h0 h1 Z5 sk sm) H := hP
  have hD : va_D AA (w_shots cI cC h0 h1 Z5 sk sm) := hD
  refine lv_aload_n hx hb dX6_add_46 rfl (lv_at hl 0 rfl) ?_
  refine va_get hx hb hts n6_ hown hK hP 0 rfl rfl 0 (Nat.le_of_ble_eq_true rfl) k1_ (fun _ h => h) rfl dX6_add_47 ?_
  refine lv_iconst (v := (3 : Int32)) hx hb dX6_add_50 (by decide) ?_
  refine lv_iload_n hx hb dX6_add_51 rfl (lv_at hl 3 rfl) ?_
  refine x_iast hx hb hK hP hD hS 1 0 rfl rfl (show ¬ ((3 : Int32) < 0 ∨ 96 ≤ (3 : Int32).toNatClampNeg) by decide) dX6_add_52 (fun Z6 H locs eZ6 hP hD hS => ?_)
  replace hf := lt_e eZ6 hf
  have hP : va_P D vwCl (w_shots cI cC h0 h1 Z6 sk sm) H := hP
  have hD : va_D AA (w_shots cI cC h0 h1 Z6 sk sm) := hD
  refine lv_aload_n hx hb dX6_add_53 rfl (lv_at hl 0 rfl) ?_
  refine va_get hx hb hts n6_ hown hK hP 0 rfl rfl 0 (Nat.le_of_ble_eq_true rfl) k1_ (fun _ h => h) rfl dX6_add_54 ?_
  refine lv_iconst (v := (4 : Int32)) hx hb dX6_add_57 (by decide) ?_
  refine lv_iload hx hb dX6_add_58 (lv_at hl 4 rfl) ?_
  refine x_iast hx hb hK hP hD hS 1 0 rfl rfl (show ¬ ((4 : Int32) < 0 ∨ 96 ≤ (4 : Int32).toNatClampNeg) by decide) dX6_add_60 (fun Z7 H locs eZ7 hP hD hS => ?_)
  replace hf := lt_e eZ7 hf
  have hP : va_P D vwCl (w_shots cI cC h0 h1 Z7 sk sm) H := hP
  have hD : va_D AA (w_shots cI cC h0 h1 Z7 sk sm) := hD
  refine lv_aload_n hx hb dX6_add_61 rfl (lv_at hl 0 rfl) ?_
  refine va_get hx hb hts n6_ hown hK hP 0 rfl rfl 0 (Nat.le_of_ble_eq_true rfl) k1_ (fun _ h => h) rfl dX6_add_62 ?_
  refine lv_bipush (v := (6 : Int32)) hx hb dX6_add_65 (by decide) ?_
  refine lv_iload hx hb dX6_add_67 (lv_at hl 5 rfl) ?_
  refine x_iast hx hb hK hP hD hS 1 0 rfl rfl (show ¬ ((6 : Int32) < 0 ∨ 96 ≤ (6 : Int32).toNatClampNeg) by decide) dX6_add_69 (fun Z8 H locs eZ8 hP hD hS => ?_)
  replace hf := lt_e eZ8 hf
  have hP : va_P D vwCl (w_shots cI cC h0 h1 Z8 sk sm) H := hP
  have hD : va_D AA (w_shots cI cC h0 h1 Z8 sk sm) := hD
  refine lv_aload_n hx hb dX6_add_70 rfl (lv_at hl 0 rfl) ?_
  refine va_get hx hb hts n6_ hown hK hP 0 rfl rfl 0 (Nat.le_of_ble_eq_true rfl) k1_ (fun _ h => h) rfl dX6_add_71 ?_
  refine lv_bipush (v := (7 : Int32)) hx hb dX6_add_74 (by decide) ?_
  refine lv_iload hx hb dX6_add_76 (lv_at hl 6 rfl) ?_
  refine x_iast hx hb hK hP hD hS 1 0 rfl rfl (show ¬ ((7 : Int32) < 0 ∨ 96 ≤ (7 : Int32).toNatClampNeg) by decide) dX6_add_78 (fun Z9 H locs eZ9 hP hD hS => ?_)
  replace hf := lt_e eZ9 hf
  have hP : va_P D vwCl (w_shots cI cC h0 h1 Z9 sk sm) H := hP
  have hD : va_D AA (w_shots cI cC h0 h1 Z9 sk sm) := hD
  refine lv_aload_n hx hb dX6_add_79 rfl (lv_at hl 0 rfl) ?_
  refine lv_bipush (v := (12 : Int32)) hx hb dX6_add_80 (by decide) ?_
  refine lv_aload_n hx hb dX6_add_82 rfl (lv_at hl 0 rfl) ?_
  refine va_get hx hb hts n6_ hown hK hP 0 rfl rfl 1 (Nat.le_of_ble_eq_true rfl) k7_ (fun _ h => h) rfl dX6_add_83 ?_
  refine lv_iconst (v := (1 : Int32)) hx hb dX6_add_86 (by decide) ?_
  refine lv_iadd hx hb dX6_add_87 ?_
  refine va_mmin hx hb (hml.trans hl.1.symm) hown k8_ k9_ k10_ k11_ (Nat.le_of_ble_eq_true rfl) (Nat.le_of_ble_eq_true rfl) (Nat.zero_le _) (Nat.zero_le _) dX6_add_88 ?_
  refine lv_topi (fun v10 ev10 => ?_)
  replace hf := lt_e ev10 hf
  refine va_put hx hb hts n6_ tyX6 tyX6_ok nmX6 hown hK hP hD hS 0 rfl rfl 1 (Nat.le_of_ble_eq_true rfl) k7_ (fun _ h => h) rfl (v := .int v10) (tyX6_ok 1 (Nat.le_of_ble_eq_true rfl)) rfl rfl (Nat.le_of_ble_eq_true rfl) dX6_add_91 (fun H locs hP hD hS => ?_)
  have hP : va_P D vwCl (w_shots cI cC h0 h1 Z9 v10 sm) H := hP
  have hD : va_D AA (w_shots cI cC h0 h1 Z9 v10 sm) := hD
  refine lv_aload_n hx hb dX6_add_94 rfl (lv_at hl 0 rfl) ?_
  refine lv_dup hx hb dX6_add_95 rfl ?_
  refine va_get hx hb hts n6_ hown hK hP 0 rfl rfl 2 (Nat.le_of_ble_eq_true rfl) k6_ (fun _ h => h) rfl dX6_add_96 ?_
  refine lv_iconst (v := (1 : Int32)) hx hb dX6_add_99 (by decide) ?_
  refine lv_iadd hx hb dX6_add_100 ?_
  refine lv_topi (fun v11 ev11 => ?_)
  replace hf := lt_e ev11 hf
  refine va_put hx hb hts n6_ tyX6 tyX6_ok nmX6 hown hK hP hD hS 0 rfl rfl 2 (Nat.le_of_ble_eq_true rfl) k6_ (fun _ h => h) rfl (v := .int v11) (tyX6_ok 2 (Nat.le_of_ble_eq_true rfl)) rfl rfl (Nat.le_of_ble_eq_true rfl) dX6_add_101 (fun H locs hP hD hS => ?_)
  have hP : va_P D vwCl (w_shots cI cC h0 h1 Z9 v10 v11) H := hP
  have hD : va_D AA (w_shots cI cC h0 h1 Z9 v10 v11) := hD
  obtain rfl := Option.some.inj hf
  exact ret 104 ls H locs dX6_add_104 hP hS
abbrev rmX6_copyFrom : Room := { frames := 1, cells := 0, slots := 0, locals := 60 }
set_option maxHeartbeats 4000000 in
set_option maxRecDepth 100000 in
theorem c_X6_copyFrom (h0 : Nat) (h1 : Nat) (h2 : Nat) (h3 : Nat) (sF : Nat → Int32) (sk : Int32) (sm : Int32) (sF2 : Nat → Int32) (sk2 : Int32) (sm2 : Int32) (R : (Nat → Int32) × Int32 × Int32) (hf : f_X6_copyFrom sF sk sm sF2 sk2 sm2 = some R) : WrV l yX6_copyFrom wsX6_copyFrom rmX6_copyFrom D cI cC (w_shots2 cI cC h0 h1 h2 h3 sF sk sm sF2 sk2 sm2) (w_shots2 cI cC h0 h1 h2 h3 R.1 R.2.1 R.2.2 sF2 sk2 sm2) [.ref h0, .ref h2] := by
  refine en_V (cc := cX6_copyFrom) (n := 2) (by decide) rfl (Nat.le_of_ble_eq_true rfl) ?_
  intro p e s m args below meth c Q AA ls hx hb hml hown hts hK hN hP hD hS hl ret
  have hown : s.vm.findClass RX6 = some m.cls := hown
  have hF : FX p m c cX6_copyFrom 2 s args wsX6_copyFrom RX6 D cI cC := ⟨⟨hx, hb, hml, hown, hts⟩, hK, hN⟩
  have hl : lv_has ls 2 [(0, .ref h0), (1, .ref h2)] := hl
  have k1_ := hts (.fieldLink RX6 11 "DriftGrinders$Shots" "facts" "[I") (List.mem_of_getElem? (i := 1) rfl)
  have k2_ := hts (.methodLink RX6 15 arraycopyName) (List.mem_of_getElem? (i := 2) rfl)
  have k3_ := hts (.native arraycopyName) (List.mem_of_getElem? (i := 3) rfl)
  have k4_ := hts (.static arraycopyName) (List.mem_of_getElem? (i := 4) rfl)
  have k5_ := hts (.initialized "java/lang/System") (List.mem_of_getElem? (i := 5) rfl)
  have k6_ := hts (.fieldLink RX6 21 "DriftGrinders$Shots" "kept" "I") (List.mem_of_getElem? (i := 6) rfl)
  have k7_ := hts (.fieldLink RX6 25 "DriftGrinders$Shots" "made" "I") (List.mem_of_getElem? (i := 7) rfl)
  have n6_ : ∀ w ∈ wsX60, w ∈ wsX6_copyFrom := fun _ h => List.mem_cons_of_mem _ (List.mem_append_right _ h)
  rw [f_X6_copyFrom] at hf
  obtain ⟨H, hH⟩ : ∃ z : Heap, z = s.heap := ⟨_, rfl⟩
  obtain ⟨locs, hL⟩ : ∃ z : List Loc, z = [] := ⟨_, rfl⟩
  replace hP := hH ▸ hP
  replace hS : va_S AA s.heap H locs := by rw [hH, hL]; exact hS
  suffices hgoal : W p l e rmX6_copyFrom s m args below meth c H locs 0 0 Q (F0 m 0 ls []) by rw [hH, hL] at hgoal; exact hgoal
  clear hH hL
  refine lv_aload_n hx hb dX6_copyFrom_0 rfl (lv_at hl 1 rfl) ?_
  refine va_get hx hb hts n6_ hown hK hP 2 rfl rfl 0 (Nat.le_of_ble_eq_true rfl) k1_ (fun _ h => h) rfl dX6_copyFrom_1 ?_
  refine lv_iconst (v := (0 : Int32)) hx hb dX6_copyFrom_4 (by decide) ?_
  refine lv_aload_n hx hb dX6_copyFrom_5 rfl (lv_at hl 0 rfl) ?_
  refine va_get hx hb hts n6_ hown hK hP 0 rfl rfl 0 (Nat.le_of_ble_eq_true rfl) k1_ (fun _ h => h) rfl dX6_copyFrom_6 ?_
  refine lv_iconst (v := (0 : Int32)) hx hb dX6_copyFrom_9 (by decide) ?_
  refine lv_aload_n hx hb dX6_copyFrom_10 rfl (lv_at hl 0 rfl) ?_
  refine va_get hx hb hts n6_ hown hK hP 0 rfl rfl 0 (Nat.le_of_ble_eq_true rfl) k1_ (fun _ h => h) rfl dX6_copyFrom_11 ?_
  refine va_alen hx hb hK hP 1 0 rfl rfl (v := (96 : Int32)) rfl dX6_copyFrom_14 ?_
  obtain ⟨hg1, hf⟩ := gd_s hf
  refine x_copy hx hb (hml.trans hl.1.symm) hown k2_ k3_ k4_ k5_ hK hP hD hS 3 1 0 0 rfl rfl rfl rfl rfl hg1.1 hg1.2.1 hg1.2.2.1 hg1.2.2.2.1 hg1.2.2.2.2 (fun _ _ => rfl) (Nat.le_of_ble_eq_true rfl) (Nat.le_of_ble_eq_true rfl) dX6_copyFrom_15 (fun Z2 H locs eZ2 hP hD hS => ?_)
  replace hf := lt_e eZ2 hf
  have hP : va_P D vwCl (w_shots2 cI cC h0 h1 h2 h3 Z2 sk sm sF2 sk2 sm2) H := hP
  have hD : va_D AA (w_shots2 cI cC h0 h1 h2 h3 Z2 sk sm sF2 sk2 sm2) := hD
  refine lv_aload_n hx hb dX6_copyFrom_18 rfl (lv_at hl 0 rfl) ?_
  refine lv_aload_n hx hb dX6_copyFrom_19 rfl (lv_at hl 1 rfl) ?_
  refine va_get hx hb hts n6_ hown hK hP 2 rfl rfl 1 (Nat.le_of_ble_eq_true rfl) k6_ (fun _ h => h) rfl dX6_copyFrom_20 ?_
  refine va_put hx hb hts n6_ tyX6 tyX6_ok nmX6 hown hK hP hD hS 0 rfl rfl 1 (Nat.le_of_ble_eq_true rfl) k6_ (fun _ h => h) rfl (v := .int sk2) (tyX6_ok 1 (Nat.le_of_ble_eq_true rfl)) rfl rfl (Nat.le_of_ble_eq_true rfl) dX6_copyFrom_23 (fun H locs hP hD hS => ?_)
  have hP : va_P D vwCl (w_shots2 cI cC h0 h1 h2 h3 Z2 sk2 sm sF2 sk2 sm2) H := hP
  have hD : va_D AA (w_shots2 cI cC h0 h1 h2 h3 Z2 sk2 sm sF2 sk2 sm2) := hD
  refine lv_aload_n hx hb dX6_copyFrom_26 rfl (lv_at hl 0 rfl) ?_
  refine lv_aload_n hx hb dX6_copyFrom_27 rfl (lv_at hl 1 rfl) ?_
  refine va_get hx hb hts n6_ hown hK hP 2 rfl rfl 2 (Nat.le_of_ble_eq_true rfl) k7_ (fun _ h => h) rfl dX6_copyFrom_28 ?_
  refine va_put hx hb hts n6_ tyX6 tyX6_ok nmX6 hown hK hP hD hS 0 rfl rfl 2 (Nat.le_of_ble_eq_true rfl) k7_ (fun _ h => h) rfl (v := .int sm2) (tyX6_ok 2 (Nat.le_of_ble_eq_true rfl)) rfl rfl (Nat.le_of_ble_eq_true rfl) dX6_copyFrom_31 (fun H locs hP hD hS => ?_)
  have hP : va_P D vwCl (w_shots2 cI cC h0 h1 h2 h3 Z2 sk2 sm2 sF2 sk2 sm2) H := hP
  have hD : va_D AA (w_shots2 cI cC h0 h1 h2 h3 Z2 sk2 sm2 sF2 sk2 sm2) := hD
  obtain rfl := Option.some.inj hf
  exact ret 34 ls H locs dX6_copyFrom_34 hP hS
end
