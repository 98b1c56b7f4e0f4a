section
variable {l : Launch} {D : va_G} {cI cC : ClassId}

def w_arr2 (cI cC : ClassId) (h0 : Nat) (h1 : Nat) (A : Nat → Int32) (B : Nat → Int32) : va_W := [(h0, .inl (cI, 631, .inl A)), (h1, .inl (cI, 631, .inl B))]
def w_model (cI cC : ClassId) (b : Nat → Nat) (S : Nat → Int32) (P : Nat → Int32) (Hd : Nat → Int32) (Tr : Nat → Int32) (Tx : Nat → Int32) (told : Nat → Int32) (pasts : Int32) (runs : Int32) (typed : Int32) (spot : Int32) (frm : Int32) (reas : Int32) (caus : Int32) (ords : Int32) (ordr : Int32) : va_W := [((b 0), .inr (8, [.ref (b 1), .ref (b 2), .ref (b 3), .ref (b 4), .int pasts, .int runs, .ref (b 5), .int typed, .int spot, .int frm, .int reas, .int caus, .int ords, .int ordr, .ref (b 6)])), ((b 1), .inl (cI, 631, .inl S)), ((b 2), .inl (cI, 2524, .inl P)), ((b 3), .inl (cI, 631, .inl Hd)), ((b 4), .inl (cI, 631, .inl Tr)), ((b 5), .inl (cI, 60, .inl Tx)), ((b 6), .inl (cI, 2, .inl told))]
abbrev rmX8_in : Room := { frames := 1, cells := 0, slots := 0, locals := 0 }
set_option maxHeartbeats 4000000 in
set_option maxRecDepth 100000 in
theorem c_X8_in (x0 : Int32) (x1 : Int32) (x2 : Int32) (R : Int32) (hf : f_X8_in x0 x1 x2 = some R) : RdI l yX8_in wsX8_in rmX8_in D cI cC ([] : va_W) [.int x0, .int x1, .int x2] R := by
  refine en_R (cc := cX8_in) (n := 3) (by decide) rfl (Nat.le_of_ble_eq_true rfl) ?_
  intro p e s m args below meth c Q AA ls hx hb hml hown hts hK hN hP hD hl ret
  have hown : s.vm.findClass RX8 = some m.cls := hown
  have hF : FX p m c cX8_in 3 s args wsX8_in RX8 D cI cC := ⟨⟨hx, hb, hml, hown, hts⟩, hK, hN⟩
  have hl : lv_has ls 3 [(0, .int x0), (1, .int x1), (2, .int x2)] := hl
  rw [f_X8_in] at hf
  refine lv_iload_n hx hb dX8_in_0 rfl (lv_at hl 0 rfl) ?_
  refine lv_iload_n hx hb dX8_in_1 rfl (lv_at hl 1 rfl) ?_
  refine lv_icmp_lt (tgt := 14) hx hb dX8_in_2 (by decide) (fun hc1 => ?_) (fun hc1 => ?_)
  · replace hf := it hc1 hf
    refine lv_iconst (v := (0 : Int32)) hx hb dX8_in_14 (by decide) ?_
    obtain rfl := Option.some.inj hf
    exact ret 15 ls _ dX8_in_15 (by decide) rfl
  · replace hf := ie hc1 hf
    refine lv_iload_n hx hb dX8_in_5 rfl (lv_at hl 0 rfl) ?_
    refine lv_iload_n hx hb dX8_in_6 rfl (lv_at hl 2 rfl) ?_
    refine lv_icmp_gt (tgt := 14) hx hb dX8_in_7 (by decide) (fun hc2 => ?_) (fun hc2 => ?_)
    · replace hf := it hc2 hf
      refine lv_iconst (v := (0 : Int32)) hx hb dX8_in_14 (by decide) ?_
      obtain rfl := Option.some.inj hf
      exact ret 15 ls _ dX8_in_15 (by decide) rfl
    · replace hf := ie hc2 hf
      refine lv_iconst (v := (1 : Int32)) hx hb dX8_in_10 (by decide) ?_
      refine lv_goto (tgt := 15) hx hb dX8_in_11 (by decide) ?_
      obtain rfl := Option.some.inj hf
      exact ret 15 ls _ dX8_in_15 (by decide) rfl
abbrev rmX8_isOne : Room := { frames := 2, cells := 0, slots := 0, locals := 22 }
set_option maxHeartbeats 4000000 in
set_option maxRecDepth 100000 in
theorem c_X8_isOne (x0 : Int32) (R : Int32) (hf : f_X8_isOne x0 = some R) : RdI l yX8_isOne wsX8_isOne rmX8_isOne D cI cC ([] : va_W) [.int x0] R := by
  refine en_R (cc := cX8_isOne) (n := 1) (by decide) rfl (Nat.le_of_ble_eq_true rfl) ?_
  intro p e s m args below meth c Q AA ls hx hb hml hown hts hK hN hP hD hl ret
  have hown : s.vm.findClass RX8 = some m.cls := hown
  have hF : FX p m c cX8_isOne 1 s args wsX8_isOne RX8 D cI cC := ⟨⟨hx, hb, hml, hown, hts⟩, hK, hN⟩
  have hl : lv_has ls 1 [(0, .int x0)] := hl
  rw [f_X8_isOne] at hf
  refine lv_iload_n hx hb dX8_isOne_0 rfl (lv_at hl 0 rfl) ?_
  refine lv_iconst (v := (0 : Int32)) hx hb dX8_isOne_1 (by decide) ?_
  refine lv_iconst (v := (1 : Int32)) hx hb dX8_isOne_2 (by decide) ?_
  obtain ⟨q1, hq1, hf⟩ := ob hf
  refine cl_RS (As := [.int x0, .int (0 : Int32), .int (1 : Int32)]) (rest := []) hF hP hD (c_X8_in x0 (0 : Int32) (1 : Int32) q1 hq1) (va_cwS 3 hts gX8_isOne_X8_in rfl rfl rfl (by decide +kernel) ⟨(Nat.le_of_ble_eq_true rfl), (Nat.le_of_ble_eq_true rfl)⟩) [] rfl (by decide +kernel) rfl rfl hl.1 (Nat.le_of_ble_eq_true rfl) dX8_isOne_3 ⟨Nat.zero_le _, Nat.zero_le _⟩ ?_
  obtain ⟨hg2, hf⟩ := gd_s hf
  obtain rfl := Option.some.inj hf
  exact ret 6 ls _ dX8_isOne_6 (zb_ok hg2) rfl
abbrev rmX8_amountOf : Room := { frames := 1, cells := 0, slots := 0, locals := 0 }
set_option maxHeartbeats 4000000 in
set_option maxRecDepth 100000 in
theorem c_X8_amountOf (x0 : Int32) (R : Int32) (hf : f_X8_amountOf x0 = some R) : RdI l yX8_amountOf wsX8_amountOf rmX8_amountOf D cI cC ([] : va_W) [.int x0] R := by
  refine en_R (cc := cX8_amountOf) (n := 1) (by decide) rfl (Nat.le_of_ble_eq_true rfl) ?_
  intro p e s m args below meth c Q AA ls hx hb hml hown hts hK hN hP hD hl ret
  have hown : s.vm.findClass RX8 = some m.cls := hown
  have hF : FX p m c cX8_amountOf 1 s args wsX8_amountOf RX8 D cI cC := ⟨⟨hx, hb, hml, hown, hts⟩, hK, hN⟩
  have hl : lv_has ls 1 [(0, .int x0)] := hl
  rw [f_X8_amountOf] at hf
  refine lv_iload_n hx hb dX8_amountOf_0 rfl (lv_at hl 0 rfl) ?_
  refine lv_sipush (v := (512 : Int32)) hx hb dX8_amountOf_1 (by decide) ?_
  refine lv_irem hx hb dX8_amountOf_4 (by decide) ?_
  obtain rfl := Option.some.inj hf
  exact ret 5 ls _ dX8_amountOf_5 rfl rfl
abbrev rmX8_kindOf : Room := { frames := 1, cells := 0, slots := 0, locals := 0 }
set_option maxHeartbeats 4000000 in
set_option maxRecDepth 100000 in
theorem c_X8_kindOf (x0 : Int32) (R : Int32) (hf : f_X8_kindOf x0 = some R) : RdI l yX8_kindOf wsX8_kindOf rmX8_kindOf D cI cC ([] : va_W) [.int x0] R := by
  refine en_R (cc := cX8_kindOf) (n := 1) (by decide) rfl (Nat.le_of_ble_eq_true rfl) ?_
  intro p e s m args below meth c Q AA ls hx hb hml hown hts hK hN hP hD hl ret
  have hown : s.vm.findClass RX8 = some m.cls := hown
  have hF : FX p m c cX8_kindOf 1 s args wsX8_kindOf RX8 D cI cC := ⟨⟨hx, hb, hml, hown, hts⟩, hK, hN⟩
  have hl : lv_has ls 1 [(0, .int x0)] := hl
  rw [f_X8_kindOf] at hf
  refine lv_iload_n hx hb dX8_kindOf_0 rfl (lv_at hl 0 rfl) ?_
  refine lv_sipush (v := (512 : Int32)) hx hb dX8_kindOf_1 (by decide) ?_
  refine lv_idiv hx hb dX8_kindOf_4 (by decide) ?_
  refine lv_iconst (v := (2 : Int32)) hx hb dX8_kindOf_5 (by decide) ?_
  refine lv_irem hx hb dX8_kindOf_6 (by decide) ?_
  obtain rfl := Option.some.inj hf
  exact ret 7 ls _ dX8_kindOf_7 rfl rfl
abbrev rmX8_burrIn : Room := { frames := 1, cells := 0, slots := 0, locals := 0 }
set_option maxHeartbeats 4000000 in
set_option maxRecDepth 100000 in
theorem c_X8_burrIn (x0 : Int32) (R : Int32) (hf : f_X8_burrIn x0 = some R) : RdI l yX8_burrIn wsX8_burrIn rmX8_burrIn D cI cC ([] : va_W) [.int x0] R := by
  refine en_R (cc := cX8_burrIn) (n := 1) (by decide) rfl (Nat.le_of_ble_eq_true rfl) ?_
  intro p e s m args below meth c Q AA ls hx hb hml hown hts hK hN hP hD hl ret
  have hown : s.vm.findClass RX8 = some m.cls := hown
  have hF : FX p m c cX8_burrIn 1 s args wsX8_burrIn RX8 D cI cC := ⟨⟨hx, hb, hml, hown, hts⟩, hK, hN⟩
  have hl : lv_has ls 1 [(0, .int x0)] := hl
  rw [f_X8_burrIn] at hf
  refine lv_iload_n hx hb dX8_burrIn_0 rfl (lv_at hl 0 rfl) ?_
  refine lv_sipush (v := (1024 : Int32)) hx hb dX8_burrIn_1 (by decide) ?_
  refine lv_idiv hx hb dX8_burrIn_4 (by decide) ?_
  refine lv_iconst (v := (2 : Int32)) hx hb dX8_burrIn_5 (by decide) ?_
  refine lv_irem hx hb dX8_burrIn_6 (by decide) ?_
  obtain rfl := Option.some.inj hf
  exact ret 7 ls _ dX8_burrIn_7 rfl rfl
abbrev rmX8_gapOf : Room := { frames := 1, cells := 0, slots := 0, locals := 0 }
set_option maxHeartbeats 4000000 in
set_option maxRecDepth 100000 in
theorem c_X8_gapOf (x0 : Int32) (R : Int32) (hf : f_X8_gapOf x0 = some R) : RdI l yX8_gapOf wsX8_gapOf rmX8_gapOf D cI cC ([] : va_W) [.int x0] R := by
  refine en_R (cc := cX8_gapOf) (n := 1) (by decide) rfl (Nat.le_of_ble_eq_true rfl) ?_
  intro p e s m args below meth c Q AA ls hx hb hml hown hts hK hN hP hD hl ret
  have hown : s.vm.findClass RX8 = some m.cls := hown
  have hF : FX p m c cX8_gapOf 1 s args wsX8_gapOf RX8 D cI cC := ⟨⟨hx, hb, hml, hown, hts⟩, hK, hN⟩
  have hl : lv_has ls 1 [(0, .int x0)] := hl
  rw [f_X8_gapOf] at hf
  refine lv_iload_n hx hb dX8_gapOf_0 rfl (lv_at hl 0 rfl) ?_
  refine lv_sipush (v := (2048 : Int32)) hx hb dX8_gapOf_1 (by decide) ?_
  refine lv_idiv hx hb dX8_gapOf_4 (by decide) ?_
  obtain rfl := Option.some.inj hf
  exact ret 5 ls _ dX8_gapOf_5 rfl rfl
abbrev rmX8_gapBy : Room := { frames := 1, cells := 0, slots := 0, locals := 0 }
set_option maxHeartbeats 4000000 in
set_option maxRecDepth 100000 in
theorem c_X8_gapBy (x0 : Int32) (x1 : Int32) (R : Int32) (hf : f_X8_gapBy x0 x1 = some R) : RdI l yX8_gapBy wsX8_gapBy rmX8_gapBy D cI cC ([] : va_W) [.int x0, .int x1] R := by
  refine en_R (cc := cX8_gapBy) (n := 3) (by decide) rfl (Nat.le_of_ble_eq_true rfl) ?_
  intro p e s m args below meth c Q AA ls hx hb hml hown hts hK hN hP hD hl ret
  have hown : s.vm.findClass RX8 = some m.cls := hown
  have hF : FX p m c cX8_gapBy 3 s args wsX8_gapBy RX8 D cI cC := ⟨⟨hx, hb, hml, hown, hts⟩, hK, hN⟩
  have hl : lv_has ls 3 [(0, .int x0), (1, .int x1)] := hl
  rw [f_X8_gapBy] at hf
  refine lv_bipush (v := (10 : Int32)) hx hb dX8_gapBy_0 (by decide) ?_
  refine lv_iload_n hx hb dX8_gapBy_2 rfl (lv_at hl 0 rfl) ?_
  refine lv_imul hx hb dX8_gapBy_3 ?_
  refine lv_iload_n hx hb dX8_gapBy_4 rfl (lv_at hl 1 rfl) ?_
  refine lv_iconst (v := (5 : Int32)) hx hb dX8_gapBy_5 (by decide) ?_
  refine lv_idiv hx hb dX8_gapBy_6 (by decide) ?_
  refine lv_isub hx hb dX8_gapBy_7 ?_
  refine lv_topi (fun v1 ev1 => ?_)
  replace hf := lt_e ev1 hf
  refine lv_istore_n (lv' := [(2, .int v1), (0, .int x0), (1, .int x1)]) hx hb dX8_gapBy_8 rfl hl (by decide) rfl (fun ls hl => ?_)
  refine lv_iload_n hx hb dX8_gapBy_9 rfl (lv_at hl 0 rfl) ?_
  refine lv_bipush (v := (10 : Int32)) hx hb dX8_gapBy_10 (by decide) ?_
  refine lv_icmp_ge (tgt := 20) hx hb dX8_gapBy_12 (by decide) (fun hc2 => ?_) (fun hc2 => ?_)
  · replace hf := it hc2 hf
    refine lv_iload_n hx hb dX8_gapBy_20 rfl (lv_at hl 0 rfl) ?_
    obtain rfl := Option.some.inj hf
    exact ret 21 ls _ dX8_gapBy_21 rfl rfl
  · replace hf := ie hc2 hf
    refine lv_bipush (v := (10 : Int32)) hx hb dX8_gapBy_15 (by decide) ?_
    refine lv_goto (tgt := 21) hx hb dX8_gapBy_17 (by decide) ?_
    obtain rfl := Option.some.inj hf
    exact ret 21 ls _ dX8_gapBy_21 rfl rfl
abbrev rmX8_fall : Room := { frames := 1, cells := 0, slots := 0, locals := 0 }
set_option maxHeartbeats 4000000 in
set_option maxRecDepth 100000 in
theorem c_X8_fall (x0 : Int32) (R : Int32) (hf : f_X8_fall x0 = some R) : RdI l yX8_fall wsX8_fall rmX8_fall D cI cC ([] : va_W) [.int x0] R := by
  refine en_R (cc := cX8_fall) (n := 1) (by decide) rfl (Nat.le_of_ble_eq_true rfl) ?_
  intro p e s m args below meth c Q AA ls hx hb hml hown hts hK hN hP hD hl ret
  have hown : s.vm.findClass RX8 = some m.cls := hown
  have hF : FX p m c cX8_fall 1 s args wsX8_fall RX8 D cI cC := ⟨⟨hx, hb, hml, hown, hts⟩, hK, hN⟩
  have hl : lv_has ls 1 [(0, .int x0)] := hl
  rw [f_X8_fall] at hf
  refine lv_iload_n hx hb dX8_fall_0 rfl (lv_at hl 0 rfl) ?_
  refine lv_if_ne (tgt := 8) hx hb dX8_fall_1 (by decide) (fun hc1 => ?_) (fun hc1 => ?_)
  · replace hf := ie hc1 hf
    refine lv_iload_n hx hb dX8_fall_8 rfl (lv_at hl 0 rfl) ?_
    refine lv_bipush (v := (16 : Int32)) hx hb dX8_fall_9 (by decide) ?_
    refine lv_icmp_ge (tgt := 18) hx hb dX8_fall_11 (by decide) (fun hc2 => ?_) (fun hc2 => ?_)
    · replace hf := it hc2 hf
      refine lv_iload_n hx hb dX8_fall_18 rfl (lv_at hl 0 rfl) ?_
      refine lv_bipush (v := (16 : Int32)) hx hb dX8_fall_19 (by decide) ?_
      refine lv_idiv hx hb dX8_fall_21 (by decide) ?_
      obtain rfl := Option.some.inj hf
      exact ret 22 ls _ dX8_fall_22 rfl rfl
    · replace hf := ie hc2 hf
      refine lv_iconst (v := (1 : Int32)) hx hb dX8_fall_14 (by decide) ?_
      refine lv_goto (tgt := 22) hx hb dX8_fall_15 (by decide) ?_
      obtain rfl := Option.some.inj hf
      exact ret 22 ls _ dX8_fall_22 rfl rfl
  · replace hf := it hc1 hf
    refine lv_iconst (v := (0 : Int32)) hx hb dX8_fall_4 (by decide) ?_
    refine lv_goto (tgt := 22) hx hb dX8_fall_5 (by decide) ?_
    obtain rfl := Option.some.inj hf
    exact ret 22 ls _ dX8_fall_22 rfl rfl
abbrev rmX8_leastOf : Room := { frames := 1, cells := 0, slots := 0, locals := 0 }
set_option maxHeartbeats 4000000 in
set_option maxRecDepth 100000 in
theorem c_X8_leastOf (x0 : Int32) (R : Int32) (hf : f_X8_leastOf x0 = some R) : RdI l yX8_leastOf wsX8_leastOf rmX8_leastOf D cI cC ([] : va_W) [.int x0] R := by
  refine en_R (cc := cX8_leastOf) (n := 1) (by decide) rfl (Nat.le_of_ble_eq_true rfl) ?_
  intro p e s m args below meth c Q AA ls hx hb hml hown hts hK hN hP hD hl ret
  have hown : s.vm.findClass RX8 = some m.cls := hown
  have hF : FX p m c cX8_leastOf 1 s args wsX8_leastOf RX8 D cI cC := ⟨⟨hx, hb, hml, hown, hts⟩, hK, hN⟩
  have hl : lv_has ls 1 [(0, .int x0)] := hl
  have J19 : ∀ ls : Array Slot, lv_has ls 1 [] → f_X8_leastOf_J19 = some R → W p l e rmX8_leastOf s m args below meth c s.heap [] 0 0 Q (F0 m 19 ls []) := by
    intro  ls hl hf
    rw [f_X8_leastOf_J19] at hf
    refine lv_bipush (v := (30 : Int32)) hx hb dX8_leastOf_19 (by decide) ?_
    refine lv_goto (tgt := 25) hx hb dX8_leastOf_21 (by decide) ?_
    obtain rfl := Option.some.inj hf
    exact ret 25 ls _ dX8_leastOf_25 rfl rfl
  rw [f_X8_leastOf] at hf
  refine lv_iload_n hx hb dX8_leastOf_0 rfl (lv_at hl 0 rfl) ?_
  refine lv_if_ne (tgt := 9) hx hb dX8_leastOf_1 (by decide) (fun hc1 => ?_) (fun hc1 => ?_)
  · replace hf := ie hc1 hf
    refine lv_iload_n hx hb dX8_leastOf_9 rfl (lv_at hl 0 rfl) ?_
    refine lv_iconst (v := (3 : Int32)) hx hb dX8_leastOf_10 (by decide) ?_
    refine lv_icmp_eq (tgt := 19) hx hb dX8_leastOf_11 (by decide) (fun hc2 => ?_) (fun hc2 => ?_)
    · replace hf := it hc2 hf
      exact J19  ls (lv_sub hl [] rfl) hf
    · replace hf := ie hc2 hf
      refine lv_iload_n hx hb dX8_leastOf_14 rfl (lv_at hl 0 rfl) ?_
      refine lv_iconst (v := (4 : Int32)) hx hb dX8_leastOf_15 (by decide) ?_
      refine lv_icmp_ne (tgt := 24) hx hb dX8_leastOf_16 (by decide) (fun hc3 => ?_) (fun hc3 => ?_)
      · replace hf := ie hc3 hf
        refine lv_iconst (v := (0 : Int32)) hx hb dX8_leastOf_24 (by decide) ?_
        obtain rfl := Option.some.inj hf
        exact ret 25 ls _ dX8_leastOf_25 rfl rfl
      · replace hf := it hc3 hf
        exact J19  ls (lv_sub hl [] rfl) hf
  · replace hf := it hc1 hf
    refine lv_bipush (v := (100 : Int32)) hx hb dX8_leastOf_4 (by decide) ?_
    refine lv_goto (tgt := 25) hx hb dX8_leastOf_6 (by decide) ?_
    obtain rfl := Option.some.inj hf
    exact ret 25 ls _ dX8_leastOf_25 rfl rfl
abbrev rmX8_mostOf : Room := { frames := 1, cells := 0, slots := 0, locals := 0 }
set_option maxHeartbeats 4000000 in
set_option maxRecDepth 100000 in
theorem c_X8_mostOf (x0 : Int32) (R : Int32) (hf : f_X8_mostOf x0 = some R) : RdI l yX8_mostOf wsX8_mostOf rmX8_mostOf D cI cC ([] : va_W) [.int x0] R := by
  refine en_R (cc := cX8_mostOf) (n := 1) (by decide) rfl (Nat.le_of_ble_eq_true rfl) ?_
  intro p e s m args below meth c Q AA ls hx hb hml hown hts hK hN hP hD hl ret
  have hown : s.vm.findClass RX8 = some m.cls := hown
  have hF : FX p m c cX8_mostOf 1 s args wsX8_mostOf RX8 D cI cC := ⟨⟨hx, hb, hml, hown, hts⟩, hK, hN⟩
  have hl : lv_has ls 1 [(0, .int x0)] := hl
  rw [f_X8_mostOf] at hf
  refine lv_iload_n hx hb dX8_mostOf_0 rfl (lv_at hl 0 rfl) ?_
  refine lv_if_ne (tgt := 10) hx hb dX8_mostOf_1 (by decide) (fun hc1 => ?_) (fun hc1 => ?_)
  · replace hf := ie hc1 hf
    refine lv_iload_n hx hb dX8_mostOf_10 rfl (lv_at hl 0 rfl) ?_
    refine lv_iconst (v := (1 : Int32)) hx hb dX8_mostOf_11 (by decide) ?_
    refine lv_icmp_ne (tgt := 21) hx hb dX8_mostOf_12 (by decide) (fun hc2 => ?_) (fun hc2 => ?_)
    · replace hf := ie hc2 hf
      refine lv_iload_n hx hb dX8_mostOf_21 rfl (lv_at hl 0 rfl) ?_
      refine lv_iconst (v := (2 : Int32)) hx hb dX8_mostOf_22 (by decide) ?_
      refine lv_icmp_ne (tgt := 31) hx hb dX8_mostOf_23 (by decide) (fun hc3 => ?_) (fun hc3 => ?_)
      · replace hf := ie hc3 hf
        refine lv_iload_n hx hb dX8_mostOf_31 rfl (lv_at hl 0 rfl) ?_
        refine lv_iconst (v := (5 : Int32)) hx hb dX8_mostOf_32 (by decide) ?_
        refine lv_icmp_ne (tgt := 40) hx hb dX8_mostOf_33 (by decide) (fun hc4 => ?_) (fun hc4 => ?_)
        · replace hf := ie hc4 hf
          refine lv_sipush (v := (300 : Int32)) hx hb dX8_mostOf_40 (by decide) ?_
          obtain rfl := Option.some.inj hf
          exact ret 43 ls _ dX8_mostOf_43 rfl rfl
        · replace hf := it hc4 hf
          refine lv_iconst (v := (1 : Int32)) hx hb dX8_mostOf_36 (by decide) ?_
          refine lv_goto (tgt := 43) hx hb dX8_mostOf_37 (by decide) ?_
          obtain rfl := Option.some.inj hf
          exact ret 43 ls _ dX8_mostOf_43 rfl rfl
      · replace hf := it hc3 hf
        refine lv_bipush (v := (100 : Int32)) hx hb dX8_mostOf_26 (by decide) ?_
        refine lv_goto (tgt := 43) hx hb dX8_mostOf_28 (by decide) ?_
        obtain rfl := Option.some.inj hf
        exact ret 43 ls _ dX8_mostOf_43 rfl rfl
    · replace hf := it hc2 hf
      refine lv_sipush (v := (200 : Int32)) hx hb dX8_mostOf_15 (by decide) ?_
      refine lv_goto (tgt := 43) hx hb dX8_mostOf_18 (by decide) ?_
      obtain rfl := Option.some.inj hf
      exact ret 43 ls _ dX8_mostOf_43 rfl rfl
  · replace hf := it hc1 hf
    refine lv_sipush (v := (600 : Int32)) hx hb dX8_mostOf_4 (by decide) ?_
    refine lv_goto (tgt := 43) hx hb dX8_mostOf_7 (by decide) ?_
    obtain rfl := Option.some.inj hf
    exact ret 43 ls _ dX8_mostOf_43 rfl rfl
abbrev rmX8_copies : Room := { frames := 1, cells := 0, slots := 0, locals := 0 }
set_option maxHeartbeats 4000000 in
set_option maxRecDepth 100000 in
theorem c_X8_copies (h0 : Nat) (h1 : Nat) (A : Nat → Int32) (B : Nat → Int32) (R : (Nat → Int32)) (hf : f_X8_copies A B = some R) : WrV l yX8_copies wsX8_copies rmX8_copies D cI cC (w_arr2 cI cC h0 h1 A B) (w_arr2 cI cC h0 h1 A R) [.ref h0, .ref h1] := by
  refine en_V (cc := cX8_copies) (n := 3) (by decide) rfl (Nat.le_of_ble_eq_true rfl) ?_
  intro p e s m args below meth c Q AA ls hx hb hml hown hts hK hN hP hD hS hl ret
  have hown : s.vm.findClass RX8 = some m.cls := hown
  have hF : FX p m c cX8_copies 3 s args wsX8_copies RX8 D cI cC := ⟨⟨hx, hb, hml, hown, hts⟩, hK, hN⟩
  have hl : lv_has ls 3 [(0, .ref h0), (1, .ref h1)] := hl
  have L2 : ∀ n2 : Nat, ∀ (y2_2 : Int32) (B_2 : Nat → Int32) (H : Heap) (locs : List Loc), va_P D vwCl (w_arr2 cI cC h0 h1 A B_2) H → va_D AA (w_arr2 cI cC h0 h1 A B_2) → va_S AA s.heap H locs → ∀ ls : Array Slot, lv_has ls 3 [(0, .ref h0), (1, .ref h1), (2, .int y2_2)] → f_X8_copies_L2 A n2 y2_2 B_2 = some R → W p l e rmX8_copies s m args below meth c H locs 0 0 Q (F0 m 2 ls []) := by
    intro n2
    induction n2 with
    | zero => intro y2_2 B_2 H locs hP hD hS ls hl hf; rw [f_X8_copies_L2] at hf; cases hf
    | succ n2 IH2 =>
      intro y2_2 B_2 H locs hP hD hS ls hl hf
      rw [f_X8_copies_L2] at hf
      refine lv_iload_n hx hb dX8_copies_2 rfl (lv_at hl 2 rfl) ?_
      refine lv_sipush (v := (631 : Int32)) hx hb dX8_copies_3 (by decide) ?_
      refine lv_icmp_ge (tgt := 21) hx hb dX8_copies_6 (by decide) (fun hc1 => ?_) (fun hc1 => ?_)
      · replace hf := it hc1 hf
        obtain rfl := Option.some.inj hf
        exact ret 21 ls H locs dX8_copies_21 hP hS
      · replace hf := ie hc1 hf
        refine lv_aload_n hx hb dX8_copies_9 rfl (lv_at hl 1 rfl) ?_
        refine lv_iload_n hx hb dX8_copies_10 rfl (lv_at hl 2 rfl) ?_
        refine lv_aload_n hx hb dX8_copies_11 rfl (lv_at hl 0 rfl) ?_
        refine lv_iload_n hx hb dX8_copies_12 rfl (lv_at hl 2 rfl) ?_
        obtain ⟨hg2, hf⟩ := gd_s hf
        refine va_iald hx hb hK hP 0 0 rfl rfl hg2 dX8_copies_13 ?_
        refine lv_topi (fun v3 ev3 => ?_)
        replace hf := lt_e ev3 hf
        obtain ⟨hg4, hf⟩ := gd_s hf
        refine x_iast hx hb hK hP hD hS 1 0 rfl rfl hg4 dX8_copies_14 (fun Z5 H locs eZ5 hP hD hS => ?_)
        replace hf := lt_e eZ5 hf
        have hP : va_P D vwCl (w_arr2 cI cC h0 h1 A Z5) H := hP
        have hD : va_D AA (w_arr2 cI cC h0 h1 A Z5) := hD
        obtain ⟨v6, ev6⟩ : ∃ z : Int32, z = y2_2 + (1 : Int32) := ⟨_, rfl⟩
        replace hf := lt_e ev6 hf
        refine lv_iinc (v := v6) (lv' := [(2, .int v6), (0, .ref h0), (1, .ref h1)]) hx hb dX8_copies_15 hl (k := 2) rfl (by rw [ev6]; rfl) (by decide) rfl (fun ls hl => ?_)
        refine lv_goto (tgt := 2) hx hb dX8_copies_18 (by decide) ?_
        exact IH2 v6 Z5 H locs hP hD hS ls (lv_sub hl [1, 2, 0] rfl) hf
  rw [f_X8_copies] at hf
  obtain ⟨H, hH⟩ : ∃ z : Heap, z = s.heap := ⟨_, rfl⟩
  obtain ⟨locs, hL⟩ : ∃ z : List Loc, z = [] := ⟨_, rfl⟩
  replace hP := hH ▸ hP
  replace hS : va_S AA s.heap H locs := by rw [hH, hL]; exact hS
  suffices hgoal : W p l e rmX8_copies s m args below meth c H locs 0 0 Q (F0 m 0 ls []) by rw [hH, hL] at hgoal; exact hgoal
  clear hH hL
  refine lv_iconst (v := (0 : Int32)) hx hb dX8_copies_0 (by decide) ?_
  refine lv_istore_n (lv' := [(2, .int (0 : Int32)), (0, .ref h0), (1, .ref h1)]) hx hb dX8_copies_1 rfl hl (by decide) rfl (fun ls hl => ?_)
  exact L2 FU (0 : Int32) B H locs hP hD hS ls (lv_sub hl [1, 2, 0] rfl) hf
abbrev rmX8_changes : Room := { frames := 1, cells := 0, slots := 0, locals := 0 }
set_option maxHeartbeats 4000000 in
set_option maxRecDepth 100000 in
theorem c_X8_changes (b : Nat → Nat) (S : Nat → Int32) (P : Nat → Int32) (Hd : Nat → Int32) (Tr : Nat → Int32) (Tx : Nat → Int32) (told : Nat → Int32) (pasts : Int32) (runs : Int32) (typed : Int32) (spot : Int32) (frm : Int32) (reas : Int32) (caus : Int32) (ords : Int32) (ordr : Int32) (R : (Nat → Int32) × Int32) (hf : f_X8_changes S P pasts runs = some R) : WrV l yX8_changes wsX8_changes rmX8_changes D cI cC (w_model cI cC b S P Hd Tr Tx told pasts runs typed spot frm reas caus ords ordr) (w_model cI cC b S R.1 Hd Tr Tx told R.2 runs typed spot frm reas caus ords ordr) [.ref (b 0)] := by
  refine en_V (cc := cX8_changes) (n := 2) (by decide) rfl (Nat.le_of_ble_eq_true rfl) ?_
  intro p e s m args below meth c Q AA ls hx hb hml hown hts hK hN hP hD hS hl ret
  have hown : s.vm.findClass RX8 = some m.cls := hown
  have hF : FX p m c cX8_changes 2 s args wsX8_changes RX8 D cI cC := ⟨⟨hx, hb, hml, hown, hts⟩, hK, hN⟩
  have hl : lv_has ls 2 [(0, .ref (b 0))] := hl
  have k1_ := hts (.fieldLink RX8 32 "DriftGrindersModel" "runs" "Z") (List.mem_of_getElem? (i := 1) rfl)
  have k2_ := hts (.fieldLink RX8 36 "DriftGrindersModel" "pasts" "I") (List.mem_of_getElem? (i := 2) rfl)
  have k3_ := hts (.fieldLink RX8 13 "DriftGrindersModel" "past" "[I") (List.mem_of_getElem? (i := 3) rfl)
  have k4_ := hts (.fieldLink RX8 7 "DriftGrindersModel" "s" "[I") (List.mem_of_getElem? (i := 4) rfl)
  have n8_ : ∀ w ∈ wsX80, w ∈ wsX8_changes := fun _ h => List.mem_cons_of_mem _ (List.mem_append_right _ h)
  have L59 : ∀ n59 : Nat, ∀ (y1_59 : Int32) (P_59 : Nat → Int32) (pasts_59 : Int32) (H : Heap) (locs : List Loc), va_P D vwCl (w_model cI cC b S P_59 Hd Tr Tx told pasts_59 runs typed spot frm reas caus ords ordr) H → va_D AA (w_model cI cC b S P_59 Hd Tr Tx told pasts_59 runs typed spot frm reas caus ords ordr) → va_S AA s.heap H locs → ∀ ls : Array Slot, lv_has ls 2 [(0, .ref (b 0)), (1, .int y1_59)] → f_X8_changes_L59 S runs n59 y1_59 P_59 pasts_59 = some R → W p l e rmX8_changes s m args below meth c H locs 0 0 Q (F0 m 59 ls []) := by
    intro n59
    induction n59 with
    | zero => intro y1_59 P_59 pasts_59 H locs hP hD hS ls hl hf; rw [f_X8_changes_L59] at hf; cases hf
    | succ n59 IH59 =>
      intro y1_59 P_59 pasts_59 H locs hP hD hS ls hl hf
      rw [f_X8_changes_L59] at hf
      refine lv_iload_n hx hb dX8_changes_59 rfl (lv_at hl 1 rfl) ?_
      refine lv_sipush (v := (631 : Int32)) hx hb dX8_changes_60 (by decide) ?_
      refine lv_icmp_ge (tgt := 93) hx hb dX8_changes_63 (by decide) (fun hc10 => ?_) (fun hc10 => ?_)
      · replace hf := it hc10 hf
        refine lv_aload_n hx hb dX8_changes_93 rfl (lv_at hl 0 rfl) ?_
        refine lv_dup hx hb dX8_changes_94 rfl ?_
        refine va_get hx hb hts n8_ hown hK hP 0 rfl rfl 4 (Nat.le_of_ble_eq_true rfl) k2_ (fun _ h => h) rfl dX8_changes_95 ?_
        refine lv_iconst (v := (1 : Int32)) hx hb dX8_changes_98 (by decide) ?_
        refine lv_iadd hx hb dX8_changes_99 ?_
        refine lv_topi (fun v11 ev11 => ?_)
        replace hf := lt_e ev11 hf
        refine va_put hx hb hts n8_ tyX8 tyX8_ok nmX8 hown hK hP hD hS 0 rfl rfl 4 (Nat.le_of_ble_eq_true rfl) k2_ (fun _ h => h) rfl (v := .int v11) (tyX8_ok 4 (Nat.le_of_ble_eq_true rfl)) rfl rfl (Nat.le_of_ble_eq_true rfl) dX8_changes_100 (fun H locs hP hD hS => ?_)
        have hP : va_P D vwCl (w_model cI cC b S P_59 Hd Tr Tx told v11 runs typed spot frm reas caus ords ordr) H := hP
        have hD : va_D AA (w_model cI cC b S P_59 Hd Tr Tx told v11 runs typed spot frm reas caus ords ordr) := hD
        obtain rfl := Option.some.inj hf
        exact ret 103 ls H locs dX8_changes_103 hP hS
      · replace hf := ie hc10 hf
        refine lv_aload_n hx hb dX8_changes_66 rfl (lv_at hl 0 rfl) ?_
        refine va_get hx hb hts n8_ hown hK hP 0 rfl rfl 1 (Nat.le_of_ble_eq_true rfl) k3_ (fun _ h => h) rfl dX8_changes_67 ?_
        refine lv_sipush (v := (631 : Int32)) hx hb dX8_changes_70 (by decide) ?_
        refine lv_aload_n hx hb dX8_changes_73 rfl (lv_at hl 0 rfl) ?_
        refine va_get hx hb hts n8_ hown hK hP 0 rfl rfl 4 (Nat.le_of_ble_eq_true rfl) k2_ (fun _ h => h) rfl dX8_changes_74 ?_
        refine lv_imul hx hb dX8_changes_77 ?_
        refine lv_iload_n hx hb dX8_changes_78 rfl (lv_at hl 1 rfl) ?_
        refine lv_iadd hx hb dX8_changes_79 ?_
        refine lv_aload_n hx hb dX8_changes_80 rfl (lv_at hl 0 rfl) ?_
        refine va_get hx hb hts n8_ hown hK hP 0 rfl rfl 0 (Nat.le_of_ble_eq_true rfl) k4_ (fun _ h => h) rfl dX8_changes_81 ?_
        refine lv_iload_n hx hb dX8_changes_84 rfl (lv_at hl 1 rfl) ?_
        obtain ⟨hg12, hf⟩ := gd_s hf
        refine va_iald hx hb hK hP 1 0 rfl rfl hg12 dX8_changes_85 ?_
        refine lv_topi (fun v13 ev13 => ?_)
        replace hf := lt_e ev13 hf
        obtain ⟨hg14, hf⟩ := gd_s hf
        refine x_iast hx hb hK hP hD hS 2 0 rfl rfl hg14 dX8_changes_86 (fun Z15 H locs eZ15 hP hD hS => ?_)
        replace hf := lt_e eZ15 hf
        have hP : va_P D vwCl (w_model cI cC b S Z15 Hd Tr Tx told pasts_59 runs typed spot frm reas caus ords ordr) H := hP
        have hD : va_D AA (w_model cI cC b S Z15 Hd Tr Tx told pasts_59 runs typed spot frm reas caus ords ordr) := hD
        obtain ⟨v16, ev16⟩ : ∃ z : Int32, z = y1_59 + (1 : Int32) := ⟨_, rfl⟩
        replace hf := lt_e ev16 hf
        refine lv_iinc (v := v16) (lv' := [(1, .int v16), (0, .ref (b 0))]) hx hb dX8_changes_87 hl (k := 1) rfl (by rw [ev16]; rfl) (by decide) rfl (fun ls hl => ?_)
        refine lv_goto (tgt := 59) hx hb dX8_changes_90 (by decide) ?_
        exact IH59 v16 Z15 pasts_59 H locs hP hD hS ls (lv_sub hl [1, 0] rfl) hf
  have J57 : ∀ (P_57 : Nat → Int32) (pasts_57 : Int32) (H : Heap) (locs : List Loc), va_P D vwCl (w_model cI cC b S P_57 Hd Tr Tx told pasts_57 runs typed spot frm reas caus ords ordr) H → va_D AA (w_model cI cC b S P_57 Hd Tr Tx told pasts_57 runs typed spot frm reas caus ords ordr) → va_S AA s.heap H locs → ∀ ls : Array Slot, lv_has ls 2 [(0, .ref (b 0))] → f_X8_changes_J57 S runs P_57 pasts_57 = some R → W p l e rmX8_changes s m args below meth c H locs 0 0 Q (F0 m 57 ls []) := by
    intro P_57 pasts_57 H locs hP hD hS ls hl hf
    rw [f_X8_changes_J57] at hf
    refine lv_iconst (v := (0 : Int32)) hx hb dX8_changes_57 (by decide) ?_
    refine lv_istore_n (lv' := [(1, .int (0 : Int32)), (0, .ref (b 0))]) hx hb dX8_changes_58 rfl hl (by decide) rfl (fun ls hl => ?_)
    exact L59 FU (0 : Int32) P_57 pasts_57 H locs hP hD hS ls (lv_sub hl [1, 0] rfl) hf
  have L18 : ∀ n18 : Nat, ∀ (y1_18 : Int32) (P_18 : Nat → Int32) (pasts_18 : Int32) (H : Heap) (locs : List Loc), va_P D vwCl (w_model cI cC b S P_18 Hd Tr Tx told pasts_18 runs typed spot frm reas caus ords ordr) H → va_D AA (w_model cI cC b S P_18 Hd Tr Tx told pasts_18 runs typed spot frm reas caus ords ordr) → va_S AA s.heap H locs → ∀ ls : Array Slot, lv_has ls 2 [(0, .ref (b 0)), (1, .int y1_18)] → f_X8_changes_L18 S runs n18 y1_18 P_18 pasts_18 = some R → W p l e rmX8_changes s m args below meth c H locs 0 0 Q (F0 m 18 ls []) := by
    intro n18
    induction n18 with
    | zero => intro y1_18 P_18 pasts_18 H locs hP hD hS ls hl hf; rw [f_X8_changes_L18] at hf; cases hf
    | succ n18 IH18 =>
      intro y1_18 P_18 pasts_18 H locs hP hD hS ls hl hf
      rw [f_X8_changes_L18] at hf
      refine lv_iload_n hx hb dX8_changes_18 rfl (lv_at hl 1 rfl) ?_
      refine lv_sipush (v := (1893 : Int32)) hx hb dX8_changes_19 (by decide) ?_
      refine lv_icmp_ge (tgt := 47) hx hb dX8_changes_22 (by decide) (fun hc3 => ?_) (fun hc3 => ?_)
      · replace hf := it hc3 hf
        refine lv_aload_n hx hb dX8_changes_47 rfl (lv_at hl 0 rfl) ?_
        refine lv_dup hx hb dX8_changes_48 rfl ?_
        refine va_get hx hb hts n8_ hown hK hP 0 rfl rfl 4 (Nat.le_of_ble_eq_true rfl) k2_ (fun _ h => h) rfl dX8_changes_49 ?_
        refine lv_iconst (v := (1 : Int32)) hx hb dX8_changes_52 (by decide) ?_
        refine lv_isub hx hb dX8_changes_53 ?_
        refine lv_topi (fun v4 ev4 => ?_)
        replace hf := lt_e ev4 hf
        refine va_put hx hb hts n8_ tyX8 tyX8_ok nmX8 hown hK hP hD hS 0 rfl rfl 4 (Nat.le_of_ble_eq_true rfl) k2_ (fun _ h => h) rfl (v := .int v4) (tyX8_ok 4 (Nat.le_of_ble_eq_true rfl)) rfl rfl (Nat.le_of_ble_eq_true rfl) dX8_changes_54 (fun H locs hP hD hS => ?_)
        have hP : va_P D vwCl (w_model cI cC b S P_18 Hd Tr Tx told v4 runs typed spot frm reas caus ords ordr) H := hP
        have hD : va_D AA (w_model cI cC b S P_18 Hd Tr Tx told v4 runs typed spot frm reas caus ords ordr) := hD
        exact J57 P_18 v4 H locs hP hD hS ls (lv_sub hl [0] rfl) hf
      · replace hf := ie hc3 hf
        refine lv_aload_n hx hb dX8_changes_25 rfl (lv_at hl 0 rfl) ?_
        refine va_get hx hb hts n8_ hown hK hP 0 rfl rfl 1 (Nat.le_of_ble_eq_true rfl) k3_ (fun _ h => h) rfl dX8_changes_26 ?_
        refine lv_iload_n hx hb dX8_changes_29 rfl (lv_at hl 1 rfl) ?_
        refine lv_aload_n hx hb dX8_changes_30 rfl (lv_at hl 0 rfl) ?_
        refine va_get hx hb hts n8_ hown hK hP 0 rfl rfl 1 (Nat.le_of_ble_eq_true rfl) k3_ (fun _ h => h) rfl dX8_changes_31 ?_
        refine lv_iload_n hx hb dX8_changes_34 rfl (lv_at hl 1 rfl) ?_
        refine lv_sipush (v := (631 : Int32)) hx hb dX8_changes_35 (by decide) ?_
        refine lv_iadd hx hb dX8_changes_38 ?_
        obtain ⟨hg5, hf⟩ := gd_s hf
        refine va_iald hx hb hK hP 2 0 rfl rfl hg5 dX8_changes_39 ?_
        refine lv_topi (fun v6 ev6 => ?_)
        replace hf := lt_e ev6 hf
        obtain ⟨hg7, hf⟩ := gd_s hf
        refine x_iast hx hb hK hP hD hS 2 0 rfl rfl hg7 dX8_changes_40 (fun Z8 H locs eZ8 hP hD hS => ?_)
        replace hf := lt_e eZ8 hf
        have hP : va_P D vwCl (w_model cI cC b S Z8 Hd Tr Tx told pasts_18 runs typed spot frm reas caus ords ordr) H := hP
        have hD : va_D AA (w_model cI cC b S Z8 Hd Tr Tx told pasts_18 runs typed spot frm reas caus ords ordr) := hD
        obtain ⟨v9, ev9⟩ : ∃ z : Int32, z = y1_18 + (1 : Int32) := ⟨_, rfl⟩
        replace hf := lt_e ev9 hf
        refine lv_iinc (v := v9) (lv' := [(1, .int v9), (0, .ref (b 0))]) hx hb dX8_changes_41 hl (k := 1) rfl (by rw [ev9]; rfl) (by decide) rfl (fun ls hl => ?_)
        refine lv_goto (tgt := 18) hx hb dX8_changes_44 (by decide) ?_
        exact IH18 v9 Z8 pasts_18 H locs hP hD hS ls (lv_sub hl [1, 0] rfl) hf
  rw [f_X8_changes] at hf
  obtain ⟨H, hH⟩ : ∃ z : Heap, z = s.heap := ⟨_, rfl⟩
  obtain ⟨locs, hL⟩ : ∃ z : List Loc, z = [] := ⟨_, rfl⟩
  replace hP := hH ▸ hP
  replace hS : va_S AA s.heap H locs := by rw [hH, hL]; exact hS
  suffices hgoal : W p l e rmX8_changes s m args below meth c H locs 0 0 Q (F0 m 0 ls []) by rw [hH, hL] at hgoal; exact hgoal
  clear hH hL
  refine lv_aload_n hx hb dX8_changes_0 rfl (lv_at hl 0 rfl) ?_
  refine va_get hx hb hts n8_ hown hK hP 0 rfl rfl 5 (Nat.le_of_ble_eq_true rfl) k1_ (fun _ h => h) rfl dX8_changes_1 ?_
  refine lv_if_eq (tgt := 8) hx hb dX8_changes_4 (by decide) (fun hc1 => ?_) (fun hc1 => ?_)
  · replace hf := it hc1 hf
    refine lv_aload_n hx hb dX8_changes_8 rfl (lv_at hl 0 rfl) ?_
    refine va_get hx hb hts n8_ hown hK hP 0 rfl rfl 4 (Nat.le_of_ble_eq_true rfl) k2_ (fun _ h => h) rfl dX8_changes_9 ?_
    refine lv_iconst (v := (4 : Int32)) hx hb dX8_changes_12 (by decide) ?_
    refine lv_icmp_ne (tgt := 57) hx hb dX8_changes_13 (by decide) (fun hc2 => ?_) (fun hc2 => ?_)
    · replace hf := ie hc2 hf
      exact J57 P pasts H locs hP hD hS ls (lv_sub hl [0] rfl) hf
    · replace hf := it hc2 hf
      refine lv_iconst (v := (0 : Int32)) hx hb dX8_changes_16 (by decide) ?_
      refine lv_istore_n (lv' := [(1, .int (0 : Int32)), (0, .ref (b 0))]) hx hb dX8_changes_17 rfl hl (by decide) rfl (fun ls hl => ?_)
      exact L18 FU (0 : Int32) P pasts H locs hP hD hS ls (lv_sub hl [1, 0] rfl) hf
  · replace hf := ie hc1 hf
    obtain rfl := Option.some.inj hf
    exact ret 7 ls H locs dX8_changes_7 hP hS
abbrev rmX8_flowOf : Room := { frames := 2, cells := 0, slots := 0, locals := 20 }
set_option maxHeartbeats 4000000 in
set_option maxRecDepth 100000 in
theorem c_X8_flowOf (b : Nat → Nat) (x1 : Int32) (S : Nat → Int32) (P : Nat → Int32) (Hd : Nat → Int32) (Tr : Nat → Int32) (Tx : Nat → Int32) (told : Nat → Int32) (pasts : Int32) (runs : Int32) (typed : Int32) (spot : Int32) (frm : Int32) (reas : Int32) (caus : Int32) (ords : Int32) (ordr : Int32) (R : Int32) (hf : f_X8_flowOf x1 S = some R) : RdI l yX8_flowOf wsX8_flowOf rmX8_flowOf D cI cC (w_model cI cC b S P Hd Tr Tx told pasts runs typed spot frm reas caus ords ordr) [.ref (b 0), .int x1] R := by
  refine en_R (cc := cX8_flowOf) (n := 2) (by decide) rfl (Nat.le_of_ble_eq_true rfl) ?_
  intro p e s m args below meth c Q AA ls hx hb hml hown hts hK hN hP hD hl ret
  have hown : s.vm.findClass RX8 = some m.cls := hown
  have hF : FX p m c cX8_flowOf 2 s args wsX8_flowOf RX8 D cI cC := ⟨⟨hx, hb, hml, hown, hts⟩, hK, hN⟩
  have hl : lv_has ls 2 [(0, .ref (b 0)), (1, .int x1)] := hl
  have k1_ := hts (.fieldLink RX8 7 "DriftGrindersModel" "s" "[I") (List.mem_of_getElem? (i := 1) rfl)
  have n8_ : ∀ w ∈ wsX80, w ∈ wsX8_flowOf := fun _ h => List.mem_cons_of_mem _ (List.mem_append_right _ h)
  rw [f_X8_flowOf] at hf
  refine lv_aload_n hx hb dX8_flowOf_0 rfl (lv_at hl 0 rfl) ?_
  refine va_get hx hb hts n8_ hown hK hP 0 rfl rfl 0 (Nat.le_of_ble_eq_true rfl) k1_ (fun _ h => h) rfl dX8_flowOf_1 ?_
  refine lv_bipush (v := (10 : Int32)) hx hb dX8_flowOf_4 (by decide) ?_
  refine lv_iload_n hx hb dX8_flowOf_6 rfl (lv_at hl 1 rfl) ?_
  obtain ⟨q1, hq1, hf⟩ := ob hf
  refine cl_RS (As := [.int x1]) (rest := [.int (10 : Int32), .ref (b 1)]) hF hP hD (c_X8_kindOf x1 q1 hq1) (va_cwS 1 hts gX8_flowOf_X8_kindOf rfl rfl rfl (by decide +kernel) ⟨(Nat.le_of_ble_eq_true rfl), (Nat.le_of_ble_eq_true rfl)⟩) [] rfl (by decide +kernel) rfl rfl hl.1 (Nat.le_of_ble_eq_true rfl) dX8_flowOf_7 ⟨Nat.zero_le _, Nat.zero_le _⟩ ?_
  refine lv_iadd hx hb dX8_flowOf_10 ?_
  obtain ⟨hg2, hf⟩ := gd_s hf
  refine va_iald hx hb hK hP 1 0 rfl rfl hg2 dX8_flowOf_11 ?_
  refine lv_sipush (v := (1000 : Int32)) hx hb dX8_flowOf_12 (by decide) ?_
  refine lv_imul hx hb dX8_flowOf_15 ?_
  refine lv_iload_n hx hb dX8_flowOf_16 rfl (lv_at hl 1 rfl) ?_
  obtain ⟨q3, hq3, hf⟩ := ob hf
  refine cl_RS (As := [.int x1]) (rest := [.int ((S ((10 : Int32) + q1).toNatClampNeg) * (1000 : Int32))]) hF hP hD (c_X8_gapOf x1 q3 hq3) (va_cwS 1 hts gX8_flowOf_X8_gapOf rfl rfl rfl (by decide +kernel) ⟨(Nat.le_of_ble_eq_true rfl), (Nat.le_of_ble_eq_true rfl)⟩) [] rfl (by decide +kernel) rfl rfl hl.1 (Nat.le_of_ble_eq_true rfl) dX8_flowOf_17 ⟨Nat.zero_le _, Nat.zero_le _⟩ ?_
  obtain ⟨hg4, hf⟩ := gd_s hf
  refine lv_idiv hx hb dX8_flowOf_20 hg4 ?_
  obtain rfl := Option.some.inj hf
  exact ret 21 ls _ dX8_flowOf_21 rfl rfl
abbrev rmX8_amounts : Room := { frames := 2, cells := 0, slots := 0, locals := 20 }
set_option maxHeartbeats 4000000 in
set_option maxRecDepth 100000 in
theorem c_X8_amounts (b : Nat → Nat) (x1 : Int32) (x2 : Int32) (S : Nat → Int32) (P : Nat → Int32) (Hd : Nat → Int32) (Tr : Nat → Int32) (Tx : Nat → Int32) (told : Nat → Int32) (pasts : Int32) (runs : Int32) (typed : Int32) (spot : Int32) (frm : Int32) (reas : Int32) (caus : Int32) (ords : Int32) (ordr : Int32) (R : Int32) (hf : f_X8_amounts x1 x2 S = some R) : RdI l yX8_amounts wsX8_amounts rmX8_amounts D cI cC (w_model cI cC b S P Hd Tr Tx told pasts runs typed spot frm reas caus ords ordr) [.ref (b 0), .int x1, .int x2] R := by
  refine en_R (cc := cX8_amounts) (n := 5) (by decide) rfl (Nat.le_of_ble_eq_true rfl) ?_
  intro p e s m args below meth c Q AA ls hx hb hml hown hts hK hN hP hD hl ret
  have hown : s.vm.findClass RX8 = some m.cls := hown
  have hF : FX p m c cX8_amounts 5 s args wsX8_amounts RX8 D cI cC := ⟨⟨hx, hb, hml, hown, hts⟩, hK, hN⟩
  have hl : lv_has ls 5 [(0, .ref (b 0)), (1, .int x1), (2, .int x2)] := hl
  have k1_ := hts (.fieldLink RX8 7 "DriftGrindersModel" "s" "[I") (List.mem_of_getElem? (i := 1) rfl)
  have n8_ : ∀ w ∈ wsX80, w ∈ wsX8_amounts := fun _ h => List.mem_cons_of_mem _ (List.mem_append_right _ h)
  have L5 : ∀ n5 : Nat, ∀ (y1_5 : Int32) (y2_5 : Int32) (y3_5 : Int32) (y4_5 : Int32), ∀ ls : Array Slot, lv_has ls 5 [(0, .ref (b 0)), (1, .int y1_5), (2, .int y2_5), (3, .int y3_5), (4, .int y4_5)] → f_X8_amounts_L5 S y1_5 y2_5 n5 y3_5 y4_5 = some R → W p l e rmX8_amounts s m args below meth c s.heap [] 0 0 Q (F0 m 5 ls []) := by
    intro n5
    induction n5 with
    | zero => intro y1_5 y2_5 y3_5 y4_5 ls hl hf; rw [f_X8_amounts_L5] at hf; cases hf
    | succ n5 IH5 =>
      intro y1_5 y2_5 y3_5 y4_5 ls hl hf
      rw [f_X8_amounts_L5] at hf
      refine lv_iload hx hb dX8_amounts_5 (lv_at hl 4 rfl) ?_
      refine lv_aload_n hx hb dX8_amounts_7 rfl (lv_at hl 0 rfl) ?_
      refine va_get hx hb hts n8_ hown hK hP 0 rfl rfl 0 (Nat.le_of_ble_eq_true rfl) k1_ (fun _ h => h) rfl dX8_amounts_8 ?_
      refine lv_iload_n hx hb dX8_amounts_11 rfl (lv_at hl 1 rfl) ?_
      obtain ⟨hg1, hf⟩ := gd_s hf
      refine va_iald hx hb hK hP 1 0 rfl rfl hg1 dX8_amounts_12 ?_
      refine lv_icmp_ge (tgt := 37) hx hb dX8_amounts_13 (by decide) (fun hc2 => ?_) (fun hc2 => ?_)
      · replace hf := it hc2 hf
        refine lv_iload_n hx hb dX8_amounts_37 rfl (lv_at hl 3 rfl) ?_
        obtain rfl := Option.some.inj hf
        exact ret 38 ls _ dX8_amounts_38 rfl rfl
      · replace hf := ie hc2 hf
        refine lv_iload_n hx hb dX8_amounts_16 rfl (lv_at hl 3 rfl) ?_
        refine lv_aload_n hx hb dX8_amounts_17 rfl (lv_at hl 0 rfl) ?_
        refine va_get hx hb hts n8_ hown hK hP 0 rfl rfl 0 (Nat.le_of_ble_eq_true rfl) k1_ (fun _ h => h) rfl dX8_amounts_18 ?_
        refine lv_iload_n hx hb dX8_amounts_21 rfl (lv_at hl 2 rfl) ?_
        refine lv_iload hx hb dX8_amounts_22 (lv_at hl 4 rfl) ?_
        refine lv_iadd hx hb dX8_amounts_24 ?_
        obtain ⟨hg3, hf⟩ := gd_s hf
        refine va_iald hx hb hK hP 1 0 rfl rfl hg3 dX8_amounts_25 ?_
        obtain ⟨q4, hq4, hf⟩ := ob hf
        refine cl_RS (As := [.int (S (y2_5 + y4_5).toNatClampNeg)]) (rest := [.int y3_5]) hF hP hD (c_X8_amountOf (S (y2_5 + y4_5).toNatClampNeg) q4 hq4) (va_cwS 1 hts gX8_amounts_X8_amountOf rfl rfl rfl (by decide +kernel) ⟨(Nat.le_of_ble_eq_true rfl), (Nat.le_of_ble_eq_true rfl)⟩) [] rfl (by decide +kernel) rfl rfl hl.1 (Nat.le_of_ble_eq_true rfl) dX8_amounts_26 ⟨Nat.zero_le _, Nat.zero_le _⟩ ?_
        refine lv_iadd hx hb dX8_amounts_29 ?_
        refine lv_topi (fun v5 ev5 => ?_)
        replace hf := lt_e ev5 hf
        refine lv_istore_n (lv' := [(3, .int v5), (0, .ref (b 0)), (1, .int y1_5), (2, .int y2_5), (4, .int y4_5)]) hx hb dX8_amounts_30 rfl hl (by decide) rfl (fun ls hl => ?_)
        obtain ⟨v6, ev6⟩ : ∃ z : Int32, z = y4_5 + (1 : Int32) := ⟨_, rfl⟩
        replace hf := lt_e ev6 hf
        refine lv_iinc (v := v6) (lv' := [(4, .int v6), (3, .int v5), (0, .ref (b 0)), (1, .int y1_5), (2, .int y2_5)]) hx hb dX8_amounts_31 hl (k := 4) rfl (by rw [ev6]; rfl) (by decide) rfl (fun ls hl => ?_)
        refine lv_goto (tgt := 5) hx hb dX8_amounts_34 (by decide) ?_
        exact IH5 y1_5 y2_5 v5 v6 ls (lv_sub hl [2, 3, 4, 1, 0] rfl) hf
  rw [f_X8_amounts] at hf
  refine lv_iconst (v := (0 : Int32)) hx hb dX8_amounts_0 (by decide) ?_
  refine lv_istore_n (lv' := [(3, .int (0 : Int32)), (0, .ref (b 0)), (1, .int x1), (2, .int x2)]) hx hb dX8_amounts_1 rfl hl (by decide) rfl (fun ls hl => ?_)
  refine lv_iconst (v := (0 : Int32)) hx hb dX8_amounts_2 (by decide) ?_
  refine lv_istore (lv' := [(4, .int (0 : Int32)), (3, .int (0 : Int32)), (0, .ref (b 0)), (1, .int x1), (2, .int x2)]) hx hb dX8_amounts_3 hl (by decide) rfl (fun ls hl => ?_)
  exact L5 FU x1 x2 (0 : Int32) (0 : Int32) ls (lv_sub hl [2, 3, 4, 1, 0] rfl) hf
abbrev rmX8_hopper : Room := { frames := 1, cells := 0, slots := 0, locals := 0 }
set_option maxHeartbeats 4000000 in
set_option maxRecDepth 100000 in
theorem c_X8_hopper (b : Nat → Nat) (S : Nat → Int32) (P : Nat → Int32) (Hd : Nat → Int32) (Tr : Nat → Int32) (Tx : Nat → Int32) (told : Nat → Int32) (pasts : Int32) (runs : Int32) (typed : Int32) (spot : Int32) (frm : Int32) (reas : Int32) (caus : Int32) (ords : Int32) (ordr : Int32) (R : Int32) (hf : f_X8_hopper S = some R) : RdI l yX8_hopper wsX8_hopper rmX8_hopper D cI cC (w_model cI cC b S P Hd Tr Tx told pasts runs typed spot frm reas caus ords ordr) [.ref (b 0)] R := by
  refine en_R (cc := cX8_hopper) (n := 3) (by decide) rfl (Nat.le_of_ble_eq_true rfl) ?_
  intro p e s m args below meth c Q AA ls hx hb hml hown hts hK hN hP hD hl ret
  have hown : s.vm.findClass RX8 = some m.cls := hown
  have hF : FX p m c cX8_hopper 3 s args wsX8_hopper RX8 D cI cC := ⟨⟨hx, hb, hml, hown, hts⟩, hK, hN⟩
  have hl : lv_has ls 3 [(0, .ref (b 0))] := hl
  have k1_ := hts (.fieldLink RX8 7 "DriftGrindersModel" "s" "[I") (List.mem_of_getElem? (i := 1) rfl)
  have n8_ : ∀ w ∈ wsX80, w ∈ wsX8_hopper := fun _ h => List.mem_cons_of_mem _ (List.mem_append_right _ h)
  have L4 : ∀ n4 : Nat, ∀ (y1_4 : Int32) (y2_4 : Int32), ∀ ls : Array Slot, lv_has ls 3 [(0, .ref (b 0)), (1, .int y1_4), (2, .int y2_4)] → f_X8_hopper_L4 S n4 y1_4 y2_4 = some R → W p l e rmX8_hopper s m args below meth c s.heap [] 0 0 Q (F0 m 4 ls []) := by
    intro n4
    induction n4 with
    | zero => intro y1_4 y2_4 ls hl hf; rw [f_X8_hopper_L4] at hf; cases hf
    | succ n4 IH4 =>
      intro y1_4 y2_4 ls hl hf
      rw [f_X8_hopper_L4] at hf
      refine lv_iload_n hx hb dX8_hopper_4 rfl (lv_at hl 2 rfl) ?_
      refine lv_aload_n hx hb dX8_hopper_5 rfl (lv_at hl 0 rfl) ?_
      refine va_get hx hb hts n8_ hown hK hP 0 rfl rfl 0 (Nat.le_of_ble_eq_true rfl) k1_ (fun _ h => h) rfl dX8_hopper_6 ?_
      refine lv_bipush (v := (21 : Int32)) hx hb dX8_hopper_9 (by decide) ?_
      refine va_iald hx hb hK hP 1 0 rfl rfl (show ¬ ((21 : Int32) < 0 ∨ 631 ≤ (21 : Int32).toNatClampNeg) by decide) dX8_hopper_11 ?_
      refine lv_icmp_ge (tgt := 37) hx hb dX8_hopper_12 (by decide) (fun hc1 => ?_) (fun hc1 => ?_)
      · replace hf := it hc1 hf
        refine lv_iload_n hx hb dX8_hopper_37 rfl (lv_at hl 1 rfl) ?_
        obtain rfl := Option.some.inj hf
        exact ret 38 ls _ dX8_hopper_38 rfl rfl
      · replace hf := ie hc1 hf
        refine lv_iload_n hx hb dX8_hopper_15 rfl (lv_at hl 1 rfl) ?_
        refine lv_aload_n hx hb dX8_hopper_16 rfl (lv_at hl 0 rfl) ?_
        refine va_get hx hb hts n8_ hown hK hP 0 rfl rfl 0 (Nat.le_of_ble_eq_true rfl) k1_ (fun _ h => h) rfl dX8_hopper_17 ?_
        refine lv_bipush (v := (22 : Int32)) hx hb dX8_hopper_20 (by decide) ?_
        refine lv_iconst (v := (2 : Int32)) hx hb dX8_hopper_22 (by decide) ?_
        refine lv_iload_n hx hb dX8_hopper_23 rfl (lv_at hl 2 rfl) ?_
        refine lv_imul hx hb dX8_hopper_24 ?_
        refine lv_iadd hx hb dX8_hopper_25 ?_
        refine lv_iconst (v := (1 : Int32)) hx hb dX8_hopper_26 (by decide) ?_
        refine lv_iadd hx hb dX8_hopper_27 ?_
        obtain ⟨hg2, hf⟩ := gd_s hf
        refine va_iald hx hb hK hP 1 0 rfl rfl hg2 dX8_hopper_28 ?_
        refine lv_iadd hx hb dX8_hopper_29 ?_
        refine lv_topi (fun v3 ev3 => ?_)
        replace hf := lt_e ev3 hf
        refine lv_istore_n (lv' := [(1, .int v3), (0, .ref (b 0)), (2, .int y2_4)]) hx hb dX8_hopper_30 rfl hl (by decide) rfl (fun ls hl => ?_)
        obtain ⟨v4, ev4⟩ : ∃ z : Int32, z = y2_4 + (1 : Int32) := ⟨_, rfl⟩
        replace hf := lt_e ev4 hf
        refine lv_iinc (v := v4) (lv' := [(2, .int v4), (1, .int v3), (0, .ref (b 0))]) hx hb dX8_hopper_31 hl (k := 2) rfl (by rw [ev4]; rfl) (by decide) rfl (fun ls hl => ?_)
        refine lv_goto (tgt := 4) hx hb dX8_hopper_34 (by decide) ?_
        exact IH4 v3 v4 ls (lv_sub hl [2, 1, 0] rfl) hf
  rw [f_X8_hopper] at hf
  refine lv_iconst (v := (0 : Int32)) hx hb dX8_hopper_0 (by decide) ?_
  refine lv_istore_n (lv' := [(1, .int (0 : Int32)), (0, .ref (b 0))]) hx hb dX8_hopper_1 rfl hl (by decide) rfl (fun ls hl => ?_)
  refine lv_iconst (v := (0 : Int32)) hx hb dX8_hopper_2 (by decide) ?_
  refine lv_istore_n (lv' := [(2, .int (0 : Int32)), (1, .int (0 : Int32)), (0, .ref (b 0))]) hx hb dX8_hopper_3 rfl hl (by decide) rfl (fun ls hl => ?_)
  exact L4 FU (0 : Int32) (0 : Int32) ls (lv_sub hl [2, 1, 0] rfl) hf
abbrev rmX8_ofBurr : Room := { frames := 1, cells := 0, slots := 0, locals := 0 }
set_option maxHeartbeats 4000000 in
set_option maxRecDepth 100000 in
theorem c_X8_ofBurr (b : Nat → Nat) (x1 : Int32) (x2 : Int32) (S : Nat → Int32) (P : Nat → Int32) (Hd : Nat → Int32) (Tr : Nat → Int32) (Tx : Nat → Int32) (told : Nat → Int32) (pasts : Int32) (runs : Int32) (typed : Int32) (spot : Int32) (frm : Int32) (reas : Int32) (caus : Int32) (ords : Int32) (ordr : Int32) (R : Int32) (hf : f_X8_ofBurr x1 x2 S = some R) : RdI l yX8_ofBurr wsX8_ofBurr rmX8_ofBurr D cI cC (w_model cI cC b S P Hd Tr Tx told pasts runs typed spot frm reas caus ords ordr) [.ref (b 0), .int x1, .int x2] R := by
  refine en_R (cc := cX8_ofBurr) (n := 3) (by decide) rfl (Nat.le_of_ble_eq_true rfl) ?_
  intro p e s m args below meth c Q AA ls hx hb hml hown hts hK hN hP hD hl ret
  have hown : s.vm.findClass RX8 = some m.cls := hown
  have hF : FX p m c cX8_ofBurr 3 s args wsX8_ofBurr RX8 D cI cC := ⟨⟨hx, hb, hml, hown, hts⟩, hK, hN⟩
  have hl : lv_has ls 3 [(0, .ref (b 0)), (1, .int x1), (2, .int x2)] := hl
  have k1_ := hts (.fieldLink RX8 7 "DriftGrindersModel" "s" "[I") (List.mem_of_getElem? (i := 1) rfl)
  have n8_ : ∀ w ∈ wsX80, w ∈ wsX8_ofBurr := fun _ h => List.mem_cons_of_mem _ (List.mem_append_right _ h)
  rw [f_X8_ofBurr] at hf
  refine lv_aload_n hx hb dX8_ofBurr_0 rfl (lv_at hl 0 rfl) ?_
  refine va_get hx hb hts n8_ hown hK hP 0 rfl rfl 0 (Nat.le_of_ble_eq_true rfl) k1_ (fun _ h => h) rfl dX8_ofBurr_1 ?_
  refine lv_bipush (v := (13 : Int32)) hx hb dX8_ofBurr_4 (by decide) ?_
  refine lv_iconst (v := (4 : Int32)) hx hb dX8_ofBurr_6 (by decide) ?_
  refine lv_iload_n hx hb dX8_ofBurr_7 rfl (lv_at hl 1 rfl) ?_
  refine lv_imul hx hb dX8_ofBurr_8 ?_
  refine lv_iadd hx hb dX8_ofBurr_9 ?_
  refine lv_iload_n hx hb dX8_ofBurr_10 rfl (lv_at hl 2 rfl) ?_
  refine lv_iadd hx hb dX8_ofBurr_11 ?_
  obtain ⟨hg1, hf⟩ := gd_s hf
  refine va_iald hx hb hK hP 1 0 rfl rfl hg1 dX8_ofBurr_12 ?_
  obtain rfl := Option.some.inj hf
  exact ret 13 ls _ dX8_ofBurr_13 rfl rfl
abbrev rmX8_gap : Room := { frames := 2, cells := 0, slots := 0, locals := 22 }
set_option maxHeartbeats 4000000 in
set_option maxRecDepth 100000 in
theorem c_X8_gap (b : Nat → Nat) (x1 : Int32) (S : Nat → Int32) (P : Nat → Int32) (Hd : Nat → Int32) (Tr : Nat → Int32) (Tx : Nat → Int32) (told : Nat → Int32) (pasts : Int32) (runs : Int32) (typed : Int32) (spot : Int32) (frm : Int32) (reas : Int32) (caus : Int32) (ords : Int32) (ordr : Int32) (R : Int32) (hf : f_X8_gap x1 S = some R) : RdI l yX8_gap wsX8_gap rmX8_gap D cI cC (w_model cI cC b S P Hd Tr Tx told pasts runs typed spot frm reas caus ords ordr) [.ref (b 0), .int x1] R := by
  refine en_R (cc := cX8_gap) (n := 2) (by decide) rfl (Nat.le_of_ble_eq_true rfl) ?_
  intro p e s m args below meth c Q AA ls hx hb hml hown hts hK hN hP hD hl ret
  have hown : s.vm.findClass RX8 = some m.cls := hown
  have hF : FX p m c cX8_gap 2 s args wsX8_gap RX8 D cI cC := ⟨⟨hx, hb, hml, hown, hts⟩, hK, hN⟩
  have hl : lv_has ls 2 [(0, .ref (b 0)), (1, .int x1)] := hl
  rw [f_X8_gap] at hf
  refine lv_aload_n hx hb dX8_gap_0 rfl (lv_at hl 0 rfl) ?_
  refine lv_iload_n hx hb dX8_gap_1 rfl (lv_at hl 1 rfl) ?_
  refine lv_iconst (v := (0 : Int32)) hx hb dX8_gap_2 (by decide) ?_
  obtain ⟨q1, hq1, hf⟩ := ob hf
  refine cl_RV (As := [.int x1, .int (0 : Int32)]) (rest := []) hF hP hD (c_X8_ofBurr b x1 (0 : Int32) S P Hd Tr Tx told pasts runs typed spot frm reas caus ords ordr q1 hq1) (cwV 2 hts gX8_gap_X8_ofBurr rfl rfl rfl (by decide +kernel) ⟨(Nat.le_of_ble_eq_true rfl), (Nat.le_of_ble_eq_true rfl)⟩) [0, 1, 2, 3, 4, 5, 6] rfl (by decide +kernel) (va_recv hK hP (ci := 8) (q0 := 0) rfl rfl) rfl rfl hl.1 (Nat.le_of_ble_eq_true rfl) dX8_gap_3 ⟨Nat.zero_le _, Nat.zero_le _⟩ ?_
  refine lv_aload_n hx hb dX8_gap_6 rfl (lv_at hl 0 rfl) ?_
  refine lv_iload_n hx hb dX8_gap_7 rfl (lv_at hl 1 rfl) ?_
  refine lv_iconst (v := (1 : Int32)) hx hb dX8_gap_8 (by decide) ?_
  obtain ⟨q2, hq2, hf⟩ := ob hf
  refine cl_RV (As := [.int x1, .int (1 : Int32)]) (rest := [.int q1]) hF hP hD (c_X8_ofBurr b x1 (1 : Int32) S P Hd Tr Tx told pasts runs typed spot frm reas caus ords ordr q2 hq2) (cwV 2 hts gX8_gap_X8_ofBurr rfl rfl rfl (by decide +kernel) ⟨(Nat.le_of_ble_eq_true rfl), (Nat.le_of_ble_eq_true rfl)⟩) [0, 1, 2, 3, 4, 5, 6] rfl (by decide +kernel) (va_recv hK hP (ci := 8) (q0 := 0) rfl rfl) rfl rfl hl.1 (Nat.le_of_ble_eq_true rfl) dX8_gap_9 ⟨Nat.zero_le _, Nat.zero_le _⟩ ?_
  obtain ⟨q3, hq3, hf⟩ := ob hf
  refine cl_RS (As := [.int q1, .int q2]) (rest := []) hF hP hD (c_X8_gapBy q1 q2 q3 hq3) (va_cwS 2 hts gX8_gap_X8_gapBy rfl rfl rfl (by decide +kernel) ⟨(Nat.le_of_ble_eq_true rfl), (Nat.le_of_ble_eq_true rfl)⟩) [] rfl (by decide +kernel) rfl rfl hl.1 (Nat.le_of_ble_eq_true rfl) dX8_gap_12 ⟨Nat.zero_le _, Nat.zero_le _⟩ ?_
  obtain rfl := Option.some.inj hf
  exact ret 15 ls _ dX8_gap_15 rfl rfl
abbrev rmX8_passes : Room := { frames := 2, cells := 0, slots := 0, locals := 22 }
set_option maxHeartbeats 4000000 in
set_option maxRecDepth 100000 in
theorem c_X8_passes (b : Nat → Nat) (x1 : Int32) (S : Nat → Int32) (P : Nat → Int32) (Hd : Nat → Int32) (Tr : Nat → Int32) (Tx : Nat → Int32) (told : Nat → Int32) (pasts : Int32) (runs : Int32) (typed : Int32) (spot : Int32) (frm : Int32) (reas : Int32) (caus : Int32) (ords : Int32) (ordr : Int32) (R : Int32 × (Nat → Int32)) (hf : f_X8_passes x1 S = some R) : WrI l yX8_passes wsX8_passes rmX8_passes D cI cC (w_model cI cC b S P Hd Tr Tx told pasts runs typed spot frm reas caus ords ordr) (w_model cI cC b R.2 P Hd Tr Tx told pasts runs typed spot frm reas caus ords ordr) [.ref (b 0), .int x1] R.1 := by
  refine en_W (cc := cX8_passes) (n := 6) (by decide) rfl (Nat.le_of_ble_eq_true rfl) ?_
  intro p e s m args below meth c Q AA ls hx hb hml hown hts hK hN hP hD hS hl ret
  have hown : s.vm.findClass RX8 = some m.cls := hown
  have hF : FX p m c cX8_passes 6 s args wsX8_passes RX8 D cI cC := ⟨⟨hx, hb, hml, hown, hts⟩, hK, hN⟩
  have hl : lv_has ls 6 [(0, .ref (b 0)), (1, .int x1)] := hl
  have k1_ := hts (.fieldLink RX8 7 "DriftGrindersModel" "s" "[I") (List.mem_of_getElem? (i := 1) rfl)
  have n8_ : ∀ w ∈ wsX80, w ∈ wsX8_passes := fun _ h => List.mem_cons_of_mem _ (List.mem_append_right _ h)
  have L4 : ∀ n4 : Nat, ∀ (y1_4 : Int32) (y2_4 : Int32) (y3_4 : Int32) (S_4 : Nat → Int32) (H : Heap) (locs : List Loc), va_P D vwCl (w_model cI cC b S_4 P Hd Tr Tx told pasts runs typed spot frm reas caus ords ordr) H → va_D AA (w_model cI cC b S_4 P Hd Tr Tx told pasts runs typed spot frm reas caus ords ordr) → va_S AA s.heap H locs → ∀ ls : Array Slot, lv_has ls 6 [(0, .ref (b 0)), (1, .int y1_4), (2, .int y2_4), (3, .int y3_4)] → f_X8_passes_L4 y1_4 n4 y2_4 y3_4 S_4 = some R → W p l e rmX8_passes s m args below meth c H locs 0 0 Q (F0 m 4 ls []) := by
    intro n4
    induction n4 with
    | zero => intro y1_4 y2_4 y3_4 S_4 H locs hP hD hS ls hl hf; rw [f_X8_passes_L4] at hf; cases hf
    | succ n4 IH4 =>
      intro y1_4 y2_4 y3_4 S_4 H locs hP hD hS ls hl hf
      have J82 : ∀ (y2_82 : Int32) (y3_82 : Int32) (S_82 : Nat → Int32) (H : Heap) (locs : List Loc), va_P D vwCl (w_model cI cC b S_82 P Hd Tr Tx told pasts runs typed spot frm reas caus ords ordr) H → va_D AA (w_model cI cC b S_82 P Hd Tr Tx told pasts runs typed spot frm reas caus ords ordr) → va_S AA s.heap H locs → ∀ ls : Array Slot, lv_has ls 6 [(0, .ref (b 0)), (1, .int y1_4), (2, .int y2_82), (3, .int y3_82)] → f_X8_passes_J82 (f_X8_passes_L4 y1_4 n4) y1_4 y2_82 y3_82 S_82 = some R → W p l e rmX8_passes s m args below meth c H locs 0 0 Q (F0 m 82 ls []) := by
        intro y2_82 y3_82 S_82 H locs hP hD hS ls hl hf
        rw [f_X8_passes_J82] at hf
        obtain ⟨v15, ev15⟩ : ∃ z : Int32, z = y3_82 + (1 : Int32) := ⟨_, rfl⟩
        replace hf := lt_e ev15 hf
        refine lv_iinc (v := v15) (lv' := [(3, .int v15), (0, .ref (b 0)), (1, .int y1_4), (2, .int y2_82)]) hx hb dX8_passes_82 hl (k := 3) rfl (by rw [ev15]; rfl) (by decide) rfl (fun ls hl => ?_)
        refine lv_goto (tgt := 4) hx hb dX8_passes_85 (by decide) ?_
        exact IH4 y1_4 y2_82 v15 S_82 H locs hP hD hS ls (lv_sub hl [1, 2, 3, 0] rfl) hf
      have L22 : ∀ n22 : Nat, ∀ (y3_22 : Int32) (y2_22 : Int32) (y4_22 : Int32) (S_22 : Nat → Int32) (H : Heap) (locs : List Loc), va_P D vwCl (w_model cI cC b S_22 P Hd Tr Tx told pasts runs typed spot frm reas caus ords ordr) H → va_D AA (w_model cI cC b S_22 P Hd Tr Tx told pasts runs typed spot frm reas caus ords ordr) → va_S AA s.heap H locs → ∀ ls : Array Slot, lv_has ls 6 [(0, .ref (b 0)), (1, .int y1_4), (2, .int y2_22), (3, .int y3_22), (4, .int y4_22)] → f_X8_passes_L22 (f_X8_passes_L4 y1_4 n4) y1_4 y3_22 n22 y2_22 y4_22 S_22 = some R → W p l e rmX8_passes s m args below meth c H locs 0 0 Q (F0 m 22 ls []) := by
        intro n22
        induction n22 with
        | zero => intro y3_22 y2_22 y4_22 S_22 H locs hP hD hS ls hl hf; rw [f_X8_passes_L22] at hf; cases hf
        | succ n22 IH22 =>
          intro y3_22 y2_22 y4_22 S_22 H locs hP hD hS ls hl hf
          rw [f_X8_passes_L22] at hf
          refine lv_iload hx hb dX8_passes_22 (lv_at hl 4 rfl) ?_
          refine lv_iconst (v := (2 : Int32)) hx hb dX8_passes_24 (by decide) ?_
          refine lv_icmp_ge (tgt := 82) hx hb dX8_passes_25 (by decide) (fun hc4 => ?_) (fun hc4 => ?_)
          · replace hf := it hc4 hf
            exact J82 y2_22 y3_22 S_22 H locs hP hD hS ls (lv_sub hl [0, 1, 2, 3] rfl) hf
          · replace hf := ie hc4 hf
            refine lv_aload_n hx hb dX8_passes_28 rfl (lv_at hl 0 rfl) ?_
            refine va_get hx hb hts n8_ hown hK hP 0 rfl rfl 0 (Nat.le_of_ble_eq_true rfl) k1_ (fun _ h => h) rfl dX8_passes_29 ?_
            refine lv_iconst (v := (0 : Int32)) hx hb dX8_passes_32 (by decide) ?_
            refine va_iald hx hb hK hP 1 0 rfl rfl (show ¬ ((0 : Int32) < 0 ∨ 631 ≤ (0 : Int32).toNatClampNeg) by decide) dX8_passes_33 ?_
            refine lv_bipush (v := (10 : Int32)) hx hb dX8_passes_34 (by decide) ?_
            refine lv_irem hx hb dX8_passes_36 (by decide) ?_
            refine lv_if_ne (tgt := 82) hx hb dX8_passes_37 (by decide) (fun hc5 => ?_) (fun hc5 => ?_)
            · replace hf := ie hc5 hf
              exact J82 y2_22 y3_22 S_22 H locs hP hD hS ls (lv_sub hl [0, 1, 2, 3] rfl) hf
            · replace hf := it hc5 hf
              refine lv_aload_n hx hb dX8_passes_40 rfl (lv_at hl 0 rfl) ?_
              refine lv_iload hx hb dX8_passes_41 (lv_at hl 4 rfl) ?_
              refine lv_iconst (v := (1 : Int32)) hx hb dX8_passes_43 (by decide) ?_
              obtain ⟨q6, hq6, hf⟩ := ob hf
              refine cl_RV (As := [.int y4_22, .int (1 : Int32)]) (rest := []) hF hP hD (c_X8_ofBurr b y4_22 (1 : Int32) S_22 P Hd Tr Tx told pasts runs typed spot frm reas caus ords ordr q6 hq6) (cwV 2 hts gX8_passes_X8_ofBurr rfl rfl rfl (by decide +kernel) ⟨(Nat.le_of_ble_eq_true rfl), (Nat.le_of_ble_eq_true rfl)⟩) [0, 1, 2, 3, 4, 5, 6] rfl (by decide +kernel) (va_recv hK hP (ci := 8) (q0 := 0) rfl rfl) rfl rfl hl.1 (Nat.le_of_ble_eq_true rfl) dX8_passes_44 ⟨Nat.zero_le _, Nat.zero_le _⟩ ?_
              obtain ⟨q7, hq7, hf⟩ := ob hf
              refine cl_RS (As := [.int q6]) (rest := []) hF hP hD (c_X8_fall q6 q7 hq7) (va_cwS 1 hts gX8_passes_X8_fall rfl rfl rfl (by decide +kernel) ⟨(Nat.le_of_ble_eq_true rfl), (Nat.le_of_ble_eq_true rfl)⟩) [] rfl (by decide +kernel) rfl rfl hl.1 (Nat.le_of_ble_eq_true rfl) dX8_passes_47 ⟨Nat.zero_le _, Nat.zero_le _⟩ ?_
              refine lv_istore (lv' := [(5, .int q7), (0, .ref (b 0)), (1, .int y1_4), (2, .int y2_22), (3, .int y3_22), (4, .int y4_22)]) hx hb dX8_passes_50 hl (by decide) rfl (fun ls hl => ?_)
              refine lv_aload_n hx hb dX8_passes_52 rfl (lv_at hl 1 rfl) ?_
              refine va_get hx hb hts n8_ hown hK hP 0 rfl rfl 0 (Nat.le_of_ble_eq_true rfl) k1_ (fun _ h => h) rfl dX8_passes_53 ?_
              refine lv_bipush (v := (13 : Int32)) hx hb dX8_passes_56 (by decide) ?_
              refine lv_iconst (v := (4 : Int32)) hx hb dX8_passes_58 (by decide) ?_
              refine lv_iload hx hb dX8_passes_59 (lv_at hl 5 rfl) ?_
              refine lv_imul hx hb dX8_passes_61 ?_
              refine lv_iadd hx hb dX8_passes_62 ?_
              refine lv_iconst (v := (1 : Int32)) hx hb dX8_passes_63 (by decide) ?_
              refine lv_iadd hx hb dX8_passes_64 ?_
              refine lv_topi (fun v8 ev8 => ?_)
              replace hf := lt_e ev8 hf
              refine lv_dup2_11 hx hb dX8_passes_65 rfl rfl ?_
              obtain ⟨hg9, hf⟩ := gd_s hf
              refine va_iald hx hb hK hP 1 0 rfl rfl hg9 dX8_passes_66 ?_
              refine lv_iload hx hb dX8_passes_67 (lv_at hl 0 rfl) ?_
              refine lv_isub hx hb dX8_passes_69 ?_
              refine lv_topi (fun v10 ev10 => ?_)
              replace hf := lt_e ev10 hf
              obtain ⟨hg11, hf⟩ := gd_s hf
              refine x_iast hx hb hK hP hD hS 1 0 rfl rfl hg11 dX8_passes_70 (fun Z12 H locs eZ12 hP hD hS => ?_)
              replace hf := lt_e eZ12 hf
              have hP : va_P D vwCl (w_model cI cC b Z12 P Hd Tr Tx told pasts runs typed spot frm reas caus ords ordr) H := hP
              have hD : va_D AA (w_model cI cC b Z12 P Hd Tr Tx told pasts runs typed spot frm reas caus ords ordr) := hD
              refine lv_iload_n hx hb dX8_passes_71 rfl (lv_at hl 3 rfl) ?_
              refine lv_iload hx hb dX8_passes_72 (lv_at hl 0 rfl) ?_
              refine lv_iadd hx hb dX8_passes_74 ?_
              refine lv_topi (fun v13 ev13 => ?_)
              replace hf := lt_e ev13 hf
              refine lv_istore_n (lv' := [(2, .int v13), (5, .int q7), (0, .ref (b 0)), (1, .int y1_4), (3, .int y3_22), (4, .int y4_22)]) hx hb dX8_passes_75 rfl hl (by decide) rfl (fun ls hl => ?_)
              obtain ⟨v14, ev14⟩ : ∃ z : Int32, z = y4_22 + (1 : Int32) := ⟨_, rfl⟩
              replace hf := lt_e ev14 hf
              refine lv_iinc (v := v14) (lv' := [(4, .int v14), (2, .int v13), (5, .int q7), (0, .ref (b 0)), (1, .int y1_4), (3, .int y3_22)]) hx hb dX8_passes_76 hl (k := 5) rfl (by rw [ev14]; rfl) (by decide) rfl (fun ls hl => ?_)
              refine lv_goto (tgt := 22) hx hb dX8_passes_79 (by decide) ?_
              exact IH22 y3_22 v13 v14 Z12 H locs hP hD hS ls (lv_sub hl [3, 4, 1, 5, 0] rfl) hf
      rw [f_X8_passes_L4] at hf
      refine lv_iload_n hx hb dX8_passes_4 rfl (lv_at hl 3 rfl) ?_
      refine lv_iload_n hx hb dX8_passes_5 rfl (lv_at hl 1 rfl) ?_
      refine lv_icmp_ge (tgt := 88) hx hb dX8_passes_6 (by decide) (fun hc1 => ?_) (fun hc1 => ?_)
      · replace hf := it hc1 hf
        refine lv_iload_n hx hb dX8_passes_88 rfl (lv_at hl 2 rfl) ?_
        obtain rfl := Option.some.inj hf
        exact ret 89 ls _ H locs dX8_passes_89 rfl rfl hP hS
      · replace hf := ie hc1 hf
        refine lv_aload_n hx hb dX8_passes_9 rfl (lv_at hl 0 rfl) ?_
        refine va_get hx hb hts n8_ hown hK hP 0 rfl rfl 0 (Nat.le_of_ble_eq_true rfl) k1_ (fun _ h => h) rfl dX8_passes_10 ?_
        refine lv_iconst (v := (0 : Int32)) hx hb dX8_passes_13 (by decide) ?_
        refine lv_dup2_11 hx hb dX8_passes_14 rfl rfl ?_
        refine va_iald hx hb hK hP 1 0 rfl rfl (show ¬ ((0 : Int32) < 0 ∨ 631 ≤ (0 : Int32).toNatClampNeg) by decide) dX8_passes_15 ?_
        refine lv_iconst (v := (1 : Int32)) hx hb dX8_passes_16 (by decide) ?_
        refine lv_iadd hx hb dX8_passes_17 ?_
        refine lv_topi (fun v2 ev2 => ?_)
        replace hf := lt_e ev2 hf
        refine x_iast hx hb hK hP hD hS 1 0 rfl rfl (show ¬ ((0 : Int32) < 0 ∨ 631 ≤ (0 : Int32).toNatClampNeg) by decide) dX8_passes_18 (fun Z3 H locs eZ3 hP hD hS => ?_)
        replace hf := lt_e eZ3 hf
        have hP : va_P D vwCl (w_model cI cC b Z3 P Hd Tr Tx told pasts runs typed spot frm reas caus ords ordr) H := hP
        have hD : va_D AA (w_model cI cC b Z3 P Hd Tr Tx told pasts runs typed spot frm reas caus ords ordr) := hD
        refine lv_iconst (v := (0 : Int32)) hx hb dX8_passes_19 (by decide) ?_
        refine lv_istore (lv' := [(4, .int (0 : Int32)), (0, .ref (b 0)), (1, .int y1_4), (2, .int y2_4), (3, .int y3_4)]) hx hb dX8_passes_20 hl (by decide) rfl (fun ls hl => ?_)
        exact L22 FU y3_4 y2_4 (0 : Int32) Z3 H locs hP hD hS ls (lv_sub hl [1, 2, 3, 4, 0] rfl) hf
  rw [f_X8_passes] at hf
  obtain ⟨H, hH⟩ : ∃ z : Heap, z = s.heap := ⟨_, rfl⟩
  obtain ⟨locs, hL⟩ : ∃ z : List Loc, z = [] := ⟨_, rfl⟩
  replace hP := hH ▸ hP
  replace hS : va_S AA s.heap H locs := by rw [hH, hL]; exact hS
  suffices hgoal : W p l e rmX8_passes s m args below meth c H locs 0 0 Q (F0 m 0 ls []) by rw [hH, hL] at hgoal; exact hgoal
  clear hH hL
  refine lv_iconst (v := (0 : Int32)) hx hb dX8_passes_0 (by decide) ?_
  refine lv_istore_n (lv' := [(2, .int (0 : Int32)), (0, .ref (b 0)), (1, .int x1)]) hx hb dX8_passes_1 rfl hl (by decide) rfl (fun ls hl => ?_)
  refine lv_iconst (v := (0 : Int32)) hx hb dX8_passes_2 (by decide) ?_
  refine lv_istore_n (lv' := [(3, .int (0 : Int32)), (2, .int (0 : Int32)), (0, .ref (b 0)), (1, .int x1)]) hx hb dX8_passes_3 rfl hl (by decide) rfl (fun ls hl => ?_)
  exact L4 FU x1 (0 : Int32) (0 : Int32) S H locs hP hD hS ls (lv_sub hl [2, 3, 1, 0] rfl) hf
end
