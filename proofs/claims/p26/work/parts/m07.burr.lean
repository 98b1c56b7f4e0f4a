section
variable {l : Launch} {D : va_G} {cI cC : ClassId}

def w_burr (cI cC : ClassId) (h0 : Nat) (d : Int32) (w : Int32) (g : Int32) (k : Int32) : va_W := [(h0, .inr (0, [.int d, .int w, .int g, .int k]))]
def w_burr2 (cI cC : ClassId) (h0 : Nat) (h1 : Nat) (d : Int32) (w : Int32) (g : Int32) (k : Int32) (d2 : Int32) (w2 : Int32) (g2 : Int32) (k2 : Int32) : va_W := [(h0, .inr (0, [.int d, .int w, .int g, .int k])), (h1, .inr (0, [.int d2, .int w2, .int g2, .int k2]))]
abbrev rmX7_isZeroOrOne : Room := { frames := 1, cells := 0, slots := 0, locals := 0 }
set_option maxHeartbeats 4000000 in
set_option maxRecDepth 100000 in
theorem c_X7_isZeroOrOne (x0 : Int32) (R : Int32) (hf : f_X7_isZeroOrOne x0 = some R) : RdI l yX7_isZeroOrOne wsX7_isZeroOrOne rmX7_isZeroOrOne D cI cC ([] : va_W) [.int x0] R := by
  refine en_R (cc := cX7_isZeroOrOne) (n := 1) (by decide) rfl (Nat.le_of_ble_eq_true rfl) ?_
  intro p e s m args below meth c Q AA ls hx hb hml hown hts hK hN hP hD hl ret
  have hown : s.vm.findClass RX7 = some m.cls := hown
  have hF : FX p m c cX7_isZeroOrOne 1 s args wsX7_isZeroOrOne RX7 D cI cC := ⟨⟨hx, hb, hml, hown, hts⟩, hK, hN⟩
  have hl : lv_has ls 1 [(0, .int x0)] := hl
  have J9 : ∀ ls : Array Slot, lv_has ls 1 [] → f_X7_isZeroOrOne_J9 = some R → W p l e rmX7_isZeroOrOne s m args below meth c s.heap [] 0 0 Q (F0 m 9 ls []) := by
    intro  ls hl hf
    rw [f_X7_isZeroOrOne_J9] at hf
    refine lv_iconst (v := (1 : Int32)) hx hb dX7_isZeroOrOne_9 (by decide) ?_
    refine lv_goto (tgt := 14) hx hb dX7_isZeroOrOne_10 (by decide) ?_
    obtain rfl := Option.some.inj hf
    exact ret 14 ls _ dX7_isZeroOrOne_14 (by decide) rfl
  rw [f_X7_isZeroOrOne] at hf
  refine lv_iload_n hx hb dX7_isZeroOrOne_0 rfl (lv_at hl 0 rfl) ?_
  refine lv_if_eq (tgt := 9) hx hb dX7_isZeroOrOne_1 (by decide) (fun hc1 => ?_) (fun hc1 => ?_)
  · replace hf := it hc1 hf
    exact J9  ls (lv_sub hl [] rfl) hf
  · replace hf := ie hc1 hf
    refine lv_iload_n hx hb dX7_isZeroOrOne_4 rfl (lv_at hl 0 rfl) ?_
    refine lv_iconst (v := (1 : Int32)) hx hb dX7_isZeroOrOne_5 (by decide) ?_
    refine lv_icmp_ne (tgt := 13) hx hb dX7_isZeroOrOne_6 (by decide) (fun hc2 => ?_) (fun hc2 => ?_)
    · replace hf := ie hc2 hf
      refine lv_iconst (v := (0 : Int32)) hx hb dX7_isZeroOrOne_13 (by decide) ?_
      obtain rfl := Option.some.inj hf
      exact ret 14 ls _ dX7_isZeroOrOne_14 (by decide) rfl
    · replace hf := it hc2 hf
      exact J9  ls (lv_sub hl [] rfl) hf
abbrev rmX7_fallOf : Room := { frames := 1, cells := 0, slots := 0, locals := 0 }
set_option maxHeartbeats 4000000 in
set_option maxRecDepth 100000 in
theorem c_X7_fallOf (x0 : Int32) (R : Int32) (hf : f_X7_fallOf x0 = some R) : RdI l yX7_fallOf wsX7_fallOf rmX7_fallOf D cI cC ([] : va_W) [.int x0] R := by
  refine en_R (cc := cX7_fallOf) (n := 1) (by decide) rfl (Nat.le_of_ble_eq_true rfl) ?_
  intro p e s m args below meth c Q AA ls hx hb hml hown hts hK hN hP hD hl ret
  have hown : s.vm.findClass RX7 = some m.cls := hown
  have hF : FX p m c cX7_fallOf 1 s args wsX7_fallOf RX7 D cI cC := ⟨⟨hx, hb, hml, hown, hts⟩, hK, hN⟩
  have hl : lv_has ls 1 [(0, .int x0)] := hl
  rw [f_X7_fallOf] at hf
  refine lv_iload_n hx hb dX7_fallOf_0 rfl (lv_at hl 0 rfl) ?_
  refine lv_iconst (v := (1 : Int32)) hx hb dX7_fallOf_1 (by decide) ?_
  refine lv_icmp_ge (tgt := 7) hx hb dX7_fallOf_2 (by decide) (fun hc1 => ?_) (fun hc1 => ?_)
  · replace hf := it hc1 hf
    refine lv_iload_n hx hb dX7_fallOf_7 rfl (lv_at hl 0 rfl) ?_
    refine lv_bipush (v := (16 : Int32)) hx hb dX7_fallOf_8 (by decide) ?_
    refine lv_icmp_ge (tgt := 17) hx hb dX7_fallOf_10 (by decide) (fun hc2 => ?_) (fun hc2 => ?_)
    · replace hf := it hc2 hf
      refine lv_iload_n hx hb dX7_fallOf_17 rfl (lv_at hl 0 rfl) ?_
      refine lv_bipush (v := (16 : Int32)) hx hb dX7_fallOf_18 (by decide) ?_
      refine lv_idiv hx hb dX7_fallOf_20 (by decide) ?_
      obtain rfl := Option.some.inj hf
      exact ret 21 ls _ dX7_fallOf_21 rfl rfl
    · replace hf := ie hc2 hf
      refine lv_iconst (v := (1 : Int32)) hx hb dX7_fallOf_13 (by decide) ?_
      refine lv_goto (tgt := 21) hx hb dX7_fallOf_14 (by decide) ?_
      obtain rfl := Option.some.inj hf
      exact ret 21 ls _ dX7_fallOf_21 rfl rfl
  · replace hf := ie hc1 hf
    refine lv_iconst (v := (0 : Int32)) hx hb dX7_fallOf_5 (by decide) ?_
    obtain rfl := Option.some.inj hf
    exact ret 6 ls _ dX7_fallOf_6 rfl rfl
abbrev rmX7_flowOf : Room := { frames := 1, cells := 0, slots := 0, locals := 0 }
set_option maxHeartbeats 4000000 in
set_option maxRecDepth 100000 in
theorem c_X7_flowOf (x0 : Int32) (x1 : Int32) (R : Int32) (hf : f_X7_flowOf x0 x1 = some R) : RdI l yX7_flowOf wsX7_flowOf rmX7_flowOf D cI cC ([] : va_W) [.int x0, .int x1] R := by
  refine en_R (cc := cX7_flowOf) (n := 2) (by decide) rfl (Nat.le_of_ble_eq_true rfl) ?_
  intro p e s m args below meth c Q AA ls hx hb hml hown hts hK hN hP hD hl ret
  have hown : s.vm.findClass RX7 = some m.cls := hown
  have hF : FX p m c cX7_flowOf 2 s args wsX7_flowOf RX7 D cI cC := ⟨⟨hx, hb, hml, hown, hts⟩, hK, hN⟩
  have hl : lv_has ls 2 [(0, .int x0), (1, .int x1)] := hl
  rw [f_X7_flowOf] at hf
  refine lv_iload_n hx hb dX7_flowOf_0 rfl (lv_at hl 1 rfl) ?_
  refine lv_bipush (v := (10 : Int32)) hx hb dX7_flowOf_1 (by decide) ?_
  refine lv_icmp_ge (tgt := 10) hx hb dX7_flowOf_3 (by decide) (fun hc1 => ?_) (fun hc1 => ?_)
  · replace hf := it hc1 hf
    refine lv_iload_n hx hb dX7_flowOf_10 rfl (lv_at hl 0 rfl) ?_
    refine lv_sipush (v := (1000 : Int32)) hx hb dX7_flowOf_11 (by decide) ?_
    refine lv_imul hx hb dX7_flowOf_14 ?_
    refine lv_iload_n hx hb dX7_flowOf_15 rfl (lv_at hl 1 rfl) ?_
    obtain ⟨hg2, hf⟩ := gd_s hf
    refine lv_idiv hx hb dX7_flowOf_16 hg2 ?_
    obtain rfl := Option.some.inj hf
    exact ret 17 ls _ dX7_flowOf_17 rfl rfl
  · replace hf := ie hc1 hf
    refine lv_iconst (v := (0 : Int32)) hx hb dX7_flowOf_6 (by decide) ?_
    refine lv_goto (tgt := 17) hx hb dX7_flowOf_7 (by decide) ?_
    obtain rfl := Option.some.inj hf
    exact ret 17 ls _ dX7_flowOf_17 rfl rfl
abbrev rmX7_markOf : Room := { frames := 1, cells := 0, slots := 0, locals := 0 }
set_option maxHeartbeats 4000000 in
set_option maxRecDepth 100000 in
theorem c_X7_markOf (x0 : Int32) (x1 : Int32) (x2 : Int32) (R : Int32) (hf : f_X7_markOf x0 x1 x2 = some R) : RdI l yX7_markOf wsX7_markOf rmX7_markOf D cI cC ([] : va_W) [.int x0, .int x1, .int x2] R := by
  refine en_R (cc := cX7_markOf) (n := 3) (by decide) rfl (Nat.le_of_ble_eq_true rfl) ?_
  intro p e s m args below meth c Q AA ls hx hb hml hown hts hK hN hP hD hl ret
  have hown : s.vm.findClass RX7 = some m.cls := hown
  have hF : FX p m c cX7_markOf 3 s args wsX7_markOf RX7 D cI cC := ⟨⟨hx, hb, hml, hown, hts⟩, hK, hN⟩
  have hl : lv_has ls 3 [(0, .int x0), (1, .int x1), (2, .int x2)] := hl
  have J22 : ∀ (z0_22 : Int32) (z1_22 : Int32), ∀ ls : Array Slot, lv_has ls 3 [] → f_X7_markOf_J22 z0_22 z1_22 = some R → W p l e rmX7_markOf s m args below meth c s.heap [] 0 0 Q (F0 m 22 ls [.int z0_22, .int z1_22]) := by
    intro z0_22 z1_22 ls hl hf
    rw [f_X7_markOf_J22] at hf
    refine lv_ior hx hb dX7_markOf_22 ?_
    obtain rfl := Option.some.inj hf
    exact ret 23 ls _ dX7_markOf_23 rfl rfl
  have J12 : ∀ (y0_12 : Int32) (z0_12 : Int32) (z1_12 : Int32), ∀ ls : Array Slot, lv_has ls 3 [(0, .int y0_12)] → f_X7_markOf_J12 y0_12 z0_12 z1_12 = some R → W p l e rmX7_markOf s m args below meth c s.heap [] 0 0 Q (F0 m 12 ls [.int z0_12, .int z1_12]) := by
    intro y0_12 z0_12 z1_12 ls hl hf
    rw [f_X7_markOf_J12] at hf
    refine lv_ior hx hb dX7_markOf_12 ?_
    refine lv_iload_n hx hb dX7_markOf_13 rfl (lv_at hl 0 rfl) ?_
    refine lv_if_ne (tgt := 21) hx hb dX7_markOf_14 (by decide) (fun hc2 => ?_) (fun hc2 => ?_)
    · replace hf := ie hc2 hf
      refine lv_iconst (v := (1 : Int32)) hx hb dX7_markOf_21 (by decide) ?_
      exact J22 (1 : Int32) (z1_12 ||| z0_12) ls (lv_sub hl [] rfl) hf
    · replace hf := it hc2 hf
      refine lv_iconst (v := (0 : Int32)) hx hb dX7_markOf_17 (by decide) ?_
      refine lv_goto (tgt := 22) hx hb dX7_markOf_18 (by decide) ?_
      exact J22 (0 : Int32) (z1_12 ||| z0_12) ls (lv_sub hl [] rfl) hf
  rw [f_X7_markOf] at hf
  refine lv_iload_n hx hb dX7_markOf_0 rfl (lv_at hl 2 rfl) ?_
  refine lv_iconst (v := (2 : Int32)) hx hb dX7_markOf_1 (by decide) ?_
  refine lv_ishl hx hb dX7_markOf_2 ?_
  refine lv_iload_n hx hb dX7_markOf_3 rfl (lv_at hl 1 rfl) ?_
  refine lv_if_ne (tgt := 11) hx hb dX7_markOf_4 (by decide) (fun hc1 => ?_) (fun hc1 => ?_)
  · replace hf := ie hc1 hf
    refine lv_iconst (v := (2 : Int32)) hx hb dX7_markOf_11 (by decide) ?_
    exact J12 x0 (2 : Int32) (x2 <<< ((2 : Int32) &&& 31)) ls (lv_sub hl [0] rfl) hf
  · replace hf := it hc1 hf
    refine lv_iconst (v := (0 : Int32)) hx hb dX7_markOf_7 (by decide) ?_
    refine lv_goto (tgt := 12) hx hb dX7_markOf_8 (by decide) ?_
    exact J12 x0 (0 : Int32) (x2 <<< ((2 : Int32) &&& 31)) ls (lv_sub hl [0] rfl) hf
abbrev rmX7_kindOfMark : Room := { frames := 1, cells := 0, slots := 0, locals := 0 }
set_option maxHeartbeats 4000000 in
set_option maxRecDepth 100000 in
theorem c_X7_kindOfMark (x0 : Int32) (R : Int32) (hf : f_X7_kindOfMark x0 = some R) : RdI l yX7_kindOfMark wsX7_kindOfMark rmX7_kindOfMark D cI cC ([] : va_W) [.int x0] R := by
  refine en_R (cc := cX7_kindOfMark) (n := 1) (by decide) rfl (Nat.le_of_ble_eq_true rfl) ?_
  intro p e s m args below meth c Q AA ls hx hb hml hown hts hK hN hP hD hl ret
  have hown : s.vm.findClass RX7 = some m.cls := hown
  have hF : FX p m c cX7_kindOfMark 1 s args wsX7_kindOfMark RX7 D cI cC := ⟨⟨hx, hb, hml, hown, hts⟩, hK, hN⟩
  have hl : lv_has ls 1 [(0, .int x0)] := hl
  rw [f_X7_kindOfMark] at hf
  refine lv_iload_n hx hb dX7_kindOfMark_0 rfl (lv_at hl 0 rfl) ?_
  refine lv_iconst (v := (1 : Int32)) hx hb dX7_kindOfMark_1 (by decide) ?_
  refine lv_iand hx hb dX7_kindOfMark_2 ?_
  obtain rfl := Option.some.inj hf
  exact ret 3 ls _ dX7_kindOfMark_3 rfl rfl
abbrev rmX7_burrOfMark : Room := { frames := 1, cells := 0, slots := 0, locals := 0 }
set_option maxHeartbeats 4000000 in
set_option maxRecDepth 100000 in
theorem c_X7_burrOfMark (x0 : Int32) (R : Int32) (hf : f_X7_burrOfMark x0 = some R) : RdI l yX7_burrOfMark wsX7_burrOfMark rmX7_burrOfMark D cI cC ([] : va_W) [.int x0] R := by
  refine en_R (cc := cX7_burrOfMark) (n := 1) (by decide) rfl (Nat.le_of_ble_eq_true rfl) ?_
  intro p e s m args below meth c Q AA ls hx hb hml hown hts hK hN hP hD hl ret
  have hown : s.vm.findClass RX7 = some m.cls := hown
  have hF : FX p m c cX7_burrOfMark 1 s args wsX7_burrOfMark RX7 D cI cC := ⟨⟨hx, hb, hml, hown, hts⟩, hK, hN⟩
  have hl : lv_has ls 1 [(0, .int x0)] := hl
  rw [f_X7_burrOfMark] at hf
  refine lv_iload_n hx hb dX7_burrOfMark_0 rfl (lv_at hl 0 rfl) ?_
  refine lv_iconst (v := (2 : Int32)) hx hb dX7_burrOfMark_1 (by decide) ?_
  refine lv_iand hx hb dX7_burrOfMark_2 ?_
  refine lv_iconst (v := (1 : Int32)) hx hb dX7_burrOfMark_3 (by decide) ?_
  refine lv_ishr hx hb dX7_burrOfMark_4 ?_
  obtain rfl := Option.some.inj hf
  exact ret 5 ls _ dX7_burrOfMark_5 rfl rfl
abbrev rmX7_gapOfMark : Room := { frames := 1, cells := 0, slots := 0, locals := 0 }
set_option maxHeartbeats 4000000 in
set_option maxRecDepth 100000 in
theorem c_X7_gapOfMark (x0 : Int32) (R : Int32) (hf : f_X7_gapOfMark x0 = some R) : RdI l yX7_gapOfMark wsX7_gapOfMark rmX7_gapOfMark D cI cC ([] : va_W) [.int x0] R := by
  refine en_R (cc := cX7_gapOfMark) (n := 1) (by decide) rfl (Nat.le_of_ble_eq_true rfl) ?_
  intro p e s m args below meth c Q AA ls hx hb hml hown hts hK hN hP hD hl ret
  have hown : s.vm.findClass RX7 = some m.cls := hown
  have hF : FX p m c cX7_gapOfMark 1 s args wsX7_gapOfMark RX7 D cI cC := ⟨⟨hx, hb, hml, hown, hts⟩, hK, hN⟩
  have hl : lv_has ls 1 [(0, .int x0)] := hl
  rw [f_X7_gapOfMark] at hf
  refine lv_iload_n hx hb dX7_gapOfMark_0 rfl (lv_at hl 0 rfl) ?_
  refine lv_iconst (v := (2 : Int32)) hx hb dX7_gapOfMark_1 (by decide) ?_
  refine lv_ishr hx hb dX7_gapOfMark_2 ?_
  obtain rfl := Option.some.inj hf
  exact ret 3 ls _ dX7_gapOfMark_3 rfl rfl
abbrev rmX0_gapAt : Room := { frames := 1, cells := 0, slots := 0, locals := 21 }
set_option maxHeartbeats 4000000 in
set_option maxRecDepth 100000 in
theorem c_X0_gapAt (h0 : Nat) (x1 : Int32) (d : Int32) (w : Int32) (g : Int32) (k : Int32) (R : Int32) (hf : f_X0_gapAt x1 w = some R) : RdI l yX0_gapAt wsX0_gapAt rmX0_gapAt D cI cC (w_burr cI cC h0 d w g k) [.ref h0, .int x1] R := by
  refine en_R (cc := cX0_gapAt) (n := 2) (by decide) rfl (Nat.le_of_ble_eq_true rfl) ?_
  intro p e s m args below meth c Q AA ls hx hb hml hown hts hK hN hP hD hl ret
  have hown : s.vm.findClass RX0 = some m.cls := hown
  have hF : FX p m c cX0_gapAt 2 s args wsX0_gapAt RX0 D cI cC := ⟨⟨hx, hb, hml, hown, hts⟩, hK, hN⟩
  have hl : lv_has ls 2 [(0, .ref h0), (1, .int x1)] := hl
  have k1_ := hts (.fieldLink RX0 15 "DriftGrinders$Burr" "warmth" "I") (List.mem_of_getElem? (i := 1) rfl)
  have k2_ := hts (.methodLink RX0 28 Lib.Math.max.name) (List.mem_of_getElem? (i := 2) rfl)
  have k3_ := hts (.static Lib.Math.max.name) (List.mem_of_getElem? (i := 3) rfl)
  have k4_ := hts (.initialized "java/lang/Math") (List.mem_of_getElem? (i := 4) rfl)
  have k5_ := hts (.code Lib.Math.max.name Lib.Math.max.code 2 (some .int)) (List.mem_of_getElem? (i := 5) rfl)
  have n0_ : ∀ w ∈ wsX00, w ∈ wsX0_gapAt := fun _ h => List.mem_cons_of_mem _ (List.mem_append_right _ h)
  rw [f_X0_gapAt] at hf
  refine lv_bipush (v := (10 : Int32)) hx hb dX0_gapAt_0 (by decide) ?_
  refine lv_bipush (v := (10 : Int32)) hx hb dX0_gapAt_2 (by decide) ?_
  refine lv_iload_n hx hb dX0_gapAt_4 rfl (lv_at hl 1 rfl) ?_
  refine lv_imul hx hb dX0_gapAt_5 ?_
  refine lv_aload_n hx hb dX0_gapAt_6 rfl (lv_at hl 0 rfl) ?_
  refine va_get hx hb hts n0_ hown hK hP 0 rfl rfl 1 (Nat.le_of_ble_eq_true rfl) k1_ (fun _ h => h) rfl dX0_gapAt_7 ?_
  refine lv_iconst (v := (5 : Int32)) hx hb dX0_gapAt_10 (by decide) ?_
  refine lv_idiv hx hb dX0_gapAt_11 (by decide) ?_
  refine lv_isub hx hb dX0_gapAt_12 ?_
  refine va_mmax hx hb (hml.trans hl.1.symm) hown k2_ k3_ k4_ k5_ (Nat.le_of_ble_eq_true rfl) (Nat.le_of_ble_eq_true rfl) (Nat.zero_le _) (Nat.zero_le _) dX0_gapAt_13 ?_
  refine lv_topi (fun v1 ev1 => ?_)
  replace hf := lt_e ev1 hf
  obtain rfl := Option.some.inj hf
  exact ret 16 ls _ dX0_gapAt_16 rfl rfl
abbrev rmX0_gap : Room := { frames := 2, cells := 0, slots := 0, locals := 42 }
set_option maxHeartbeats 4000000 in
set_option maxRecDepth 100000 in
theorem c_X0_gap (h0 : Nat) (d : Int32) (w : Int32) (g : Int32) (k : Int32) (R : Int32) (hf : f_X0_gap d w = some R) : RdI l yX0_gap wsX0_gap rmX0_gap D cI cC (w_burr cI cC h0 d w g k) [.ref h0] R := by
  refine en_R (cc := cX0_gap) (n := 1) (by decide) rfl (Nat.le_of_ble_eq_true rfl) ?_
  intro p e s m args below meth c Q AA ls hx hb hml hown hts hK hN hP hD hl ret
  have hown : s.vm.findClass RX0 = some m.cls := hown
  have hF : FX p m c cX0_gap 1 s args wsX0_gap RX0 D cI cC := ⟨⟨hx, hb, hml, hown, hts⟩, hK, hN⟩
  have hl : lv_has ls 1 [(0, .ref h0)] := hl
  have k1_ := hts (.fieldLink RX0 9 "DriftGrinders$Burr" "dial" "I") (List.mem_of_getElem? (i := 1) rfl)
  have n0_ : ∀ w ∈ wsX00, w ∈ wsX0_gap := fun _ h => List.mem_cons_of_mem _ (List.mem_append_right _ h)
  rw [f_X0_gap] at hf
  refine lv_aload_n hx hb dX0_gap_0 rfl (lv_at hl 0 rfl) ?_
  refine lv_aload_n hx hb dX0_gap_1 rfl (lv_at hl 0 rfl) ?_
  refine va_get hx hb hts n0_ hown hK hP 0 rfl rfl 0 (Nat.le_of_ble_eq_true rfl) k1_ (fun _ h => h) rfl dX0_gap_2 ?_
  obtain ⟨q1, hq1, hf⟩ := ob hf
  refine cl_RV (As := [.int d]) (rest := []) hF hP hD (c_X0_gapAt h0 d d w g k q1 hq1) (cwV 1 hts gX0_gap_X0_gapAt rfl rfl rfl (by decide +kernel) ⟨(Nat.le_of_ble_eq_true rfl), (Nat.le_of_ble_eq_true rfl)⟩) [0] rfl (by decide +kernel) (va_recv hK hP (ci := 0) (q0 := 0) rfl rfl) rfl rfl hl.1 (Nat.le_of_ble_eq_true rfl) dX0_gap_5 ⟨Nat.zero_le _, Nat.zero_le _⟩ ?_
  obtain rfl := Option.some.inj hf
  exact ret 8 ls _ dX0_gap_8 rfl rfl
abbrev rmX0_warmByGrinding : Room := { frames := 1, cells := 0, slots := 0, locals := 21 }
set_option maxHeartbeats 4000000 in
set_option maxRecDepth 100000 in
theorem c_X0_warmByGrinding (h0 : Nat) (x1 : Int32) (d : Int32) (w : Int32) (g : Int32) (k : Int32) (R : Int32 × Int32) (hf : f_X0_warmByGrinding x1 w g = some R) : WrV l yX0_warmByGrinding wsX0_warmByGrinding rmX0_warmByGrinding D cI cC (w_burr cI cC h0 d w g k) (w_burr cI cC h0 d R.1 R.2 k) [.ref h0, .int x1] := by
  refine en_V (cc := cX0_warmByGrinding) (n := 2) (by decide) rfl (Nat.le_of_ble_eq_true rfl) ?_
  intro p e s m args below meth c Q AA ls hx hb hml hown hts hK hN hP hD hS hl ret
  have hown : s.vm.findClass RX0 = some m.cls := hown
  have hF : FX p m c cX0_warmByGrinding 2 s args wsX0_warmByGrinding RX0 D cI cC := ⟨⟨hx, hb, hml, hown, hts⟩, hK, hN⟩
  have hl : lv_has ls 2 [(0, .ref h0), (1, .int x1)] := hl
  have k1_ := hts (.fieldLink RX0 15 "DriftGrinders$Burr" "warmth" "I") (List.mem_of_getElem? (i := 1) rfl)
  have k2_ := hts (.methodLink RX0 34 Lib.Math.min.name) (List.mem_of_getElem? (i := 2) rfl)
  have k3_ := hts (.static Lib.Math.min.name) (List.mem_of_getElem? (i := 3) rfl)
  have k4_ := hts (.initialized "java/lang/Math") (List.mem_of_getElem? (i := 4) rfl)
  have k5_ := hts (.code Lib.Math.min.name Lib.Math.min.code 2 (some .int)) (List.mem_of_getElem? (i := 5) rfl)
  have k6_ := hts (.fieldLink RX0 18 "DriftGrinders$Burr" "ground" "I") (List.mem_of_getElem? (i := 6) rfl)
  have n0_ : ∀ w ∈ wsX00, w ∈ wsX0_warmByGrinding := fun _ h => List.mem_cons_of_mem _ (List.mem_append_right _ h)
  rw [f_X0_warmByGrinding] at hf
  obtain ⟨H, hH⟩ : ∃ z : Heap, z = s.heap := ⟨_, rfl⟩
  obtain ⟨locs, hL⟩ : ∃ z : List Loc, z = [] := ⟨_, rfl⟩
  replace hP := hH ▸ hP
  replace hS : va_S AA s.heap H locs := by rw [hH, hL]; exact hS
  suffices hgoal : W p l e rmX0_warmByGrinding s m args below meth c H locs 0 0 Q (F0 m 0 ls []) by rw [hH, hL] at hgoal; exact hgoal
  clear hH hL
  refine lv_aload_n hx hb dX0_warmByGrinding_0 rfl (lv_at hl 0 rfl) ?_
  refine lv_sipush (v := (300 : Int32)) hx hb dX0_warmByGrinding_1 (by decide) ?_
  refine lv_aload_n hx hb dX0_warmByGrinding_4 rfl (lv_at hl 0 rfl) ?_
  refine va_get hx hb hts n0_ hown hK hP 0 rfl rfl 1 (Nat.le_of_ble_eq_true rfl) k1_ (fun _ h => h) rfl dX0_warmByGrinding_5 ?_
  refine lv_iload_n hx hb dX0_warmByGrinding_8 rfl (lv_at hl 1 rfl) ?_
  refine lv_iconst (v := (4 : Int32)) hx hb dX0_warmByGrinding_9 (by decide) ?_
  refine lv_idiv hx hb dX0_warmByGrinding_10 (by decide) ?_
  refine lv_iadd hx hb dX0_warmByGrinding_11 ?_
  refine va_mmin hx hb (hml.trans hl.1.symm) hown k2_ k3_ k4_ k5_ (Nat.le_of_ble_eq_true rfl) (Nat.le_of_ble_eq_true rfl) (Nat.zero_le _) (Nat.zero_le _) dX0_warmByGrinding_12 ?_
  refine lv_topi (fun v1 ev1 => ?_)
  replace hf := lt_e ev1 hf
  refine va_put hx hb hts n0_ tyX0 tyX0_ok nmX0 hown hK hP hD hS 0 rfl rfl 1 (Nat.le_of_ble_eq_true rfl) k1_ (fun _ h => h) rfl (v := .int v1) (tyX0_ok 1 (Nat.le_of_ble_eq_true rfl)) rfl rfl (Nat.le_of_ble_eq_true rfl) dX0_warmByGrinding_15 (fun H locs hP hD hS => ?_)
  have hP : va_P D vwCl (w_burr cI cC h0 d v1 g k) H := hP
  have hD : va_D AA (w_burr cI cC h0 d v1 g k) := hD
  refine lv_aload_n hx hb dX0_warmByGrinding_18 rfl (lv_at hl 0 rfl) ?_
  refine lv_dup hx hb dX0_warmByGrinding_19 rfl ?_
  refine va_get hx hb hts n0_ hown hK hP 0 rfl rfl 2 (Nat.le_of_ble_eq_true rfl) k6_ (fun _ h => h) rfl dX0_warmByGrinding_20 ?_
  refine lv_iload_n hx hb dX0_warmByGrinding_23 rfl (lv_at hl 1 rfl) ?_
  refine lv_iadd hx hb dX0_warmByGrinding_24 ?_
  refine lv_topi (fun v2 ev2 => ?_)
  replace hf := lt_e ev2 hf
  refine va_put hx hb hts n0_ tyX0 tyX0_ok nmX0 hown hK hP hD hS 0 rfl rfl 2 (Nat.le_of_ble_eq_true rfl) k6_ (fun _ h => h) rfl (v := .int v2) (tyX0_ok 2 (Nat.le_of_ble_eq_true rfl)) rfl rfl (Nat.le_of_ble_eq_true rfl) dX0_warmByGrinding_25 (fun H locs hP hD hS => ?_)
  have hP : va_P D vwCl (w_burr cI cC h0 d v1 v2 k) H := hP
  have hD : va_D AA (w_burr cI cC h0 d v1 v2 k) := hD
  obtain rfl := Option.some.inj hf
  exact ret 28 ls H locs dX0_warmByGrinding_28 hP hS
abbrev rmX0_cool : Room := { frames := 2, cells := 0, slots := 0, locals := 20 }
set_option maxHeartbeats 4000000 in
set_option maxRecDepth 100000 in
theorem c_X0_cool (h0 : Nat) (x1 : Int32) (d : Int32) (w : Int32) (g : Int32) (k : Int32) (R : Int32) (hf : f_X0_cool x1 w = some R) : WrV l yX0_cool wsX0_cool rmX0_cool D cI cC (w_burr cI cC h0 d w g k) (w_burr cI cC h0 d R g k) [.ref h0, .int x1] := by
  refine en_V (cc := cX0_cool) (n := 3) (by decide) rfl (Nat.le_of_ble_eq_true rfl) ?_
  intro p e s m args below meth c Q AA ls hx hb hml hown hts hK hN hP hD hS hl ret
  have hown : s.vm.findClass RX0 = some m.cls := hown
  have hF : FX p m c cX0_cool 3 s args wsX0_cool RX0 D cI cC := ⟨⟨hx, hb, hml, hown, hts⟩, hK, hN⟩
  have hl : lv_has ls 3 [(0, .ref h0), (1, .int x1)] := hl
  have k1_ := hts (.fieldLink RX0 15 "DriftGrinders$Burr" "warmth" "I") (List.mem_of_getElem? (i := 1) rfl)
  have k2_ := hts (.static yX7_fallOf) (List.mem_of_getElem? (i := 2) rfl)
  have k3_ := hts (.initialized RX7) (List.mem_of_getElem? (i := 3) rfl)
  have n0_ : ∀ w ∈ wsX00, w ∈ wsX0_cool := fun _ h => List.mem_cons_of_mem _ (List.mem_append_right _ h)
  have L2 : ∀ n2 : Nat, ∀ (y1_2 : Int32) (y2_2 : Int32) (w_2 : Int32) (H : Heap) (locs : List Loc), va_P D vwCl (w_burr cI cC h0 d w_2 g k) H → va_D AA (w_burr cI cC h0 d w_2 g k) → va_S AA s.heap H locs → ∀ ls : Array Slot, lv_has ls 3 [(0, .ref h0), (1, .int y1_2), (2, .int y2_2)] → f_X0_cool_L2 y1_2 n2 y2_2 w_2 = some R → W p l e rmX0_cool s m args below meth c H locs 0 0 Q (F0 m 2 ls []) := by
    intro n2
    induction n2 with
    | zero => intro y1_2 y2_2 w_2 H locs hP hD hS ls hl hf; rw [f_X0_cool_L2] at hf; cases hf
    | succ n2 IH2 =>
      intro y1_2 y2_2 w_2 H locs hP hD hS ls hl hf
      rw [f_X0_cool_L2] at hf
      refine lv_iload_n hx hb dX0_cool_2 rfl (lv_at hl 2 rfl) ?_
      refine lv_iload_n hx hb dX0_cool_3 rfl (lv_at hl 1 rfl) ?_
      refine lv_icmp_ge (tgt := 36) hx hb dX0_cool_4 (by decide) (fun hc1 => ?_) (fun hc1 => ?_)
      · replace hf := it hc1 hf
        obtain rfl := Option.some.inj hf
        exact ret 36 ls H locs dX0_cool_36 hP hS
      · replace hf := ie hc1 hf
        refine lv_aload_n hx hb dX0_cool_7 rfl (lv_at hl 0 rfl) ?_
        refine va_get hx hb hts n0_ hown hK hP 0 rfl rfl 1 (Nat.le_of_ble_eq_true rfl) k1_ (fun _ h => h) rfl dX0_cool_8 ?_
        refine lv_if_le (tgt := 36) hx hb dX0_cool_11 (by decide) (fun hc2 => ?_) (fun hc2 => ?_)
        · replace hf := it hc2 hf
          obtain rfl := Option.some.inj hf
          exact ret 36 ls H locs dX0_cool_36 hP hS
        · replace hf := ie hc2 hf
          refine lv_aload_n hx hb dX0_cool_14 rfl (lv_at hl 0 rfl) ?_
          refine lv_dup hx hb dX0_cool_15 rfl ?_
          refine va_get hx hb hts n0_ hown hK hP 0 rfl rfl 1 (Nat.le_of_ble_eq_true rfl) k1_ (fun _ h => h) rfl dX0_cool_16 ?_
          refine lv_aload_n hx hb dX0_cool_19 rfl (lv_at hl 0 rfl) ?_
          refine va_get hx hb hts n0_ hown hK hP 0 rfl rfl 1 (Nat.le_of_ble_eq_true rfl) k1_ (fun _ h => h) rfl dX0_cool_20 ?_
          obtain ⟨q3, hq3, hf⟩ := ob hf
          refine cl_RN (As := [.int w_2]) (rest := [.int w_2, .ref h0]) hF hP hD (c_X7_fallOf w_2 q3 hq3) ⟨va_cnB 1 hts gX0_cool_X7_fallOf_n37 rfl rfl rfl (hN.nw 28 rfl) k3_ (by decide +kernel) ⟨(Nat.le_of_ble_eq_true rfl), (Nat.le_of_ble_eq_true rfl)⟩, k2_, trivial⟩ [] rfl (by decide +kernel) rfl rfl hl.1 (Nat.le_of_ble_eq_true rfl) dX0_cool_23 ⟨Nat.zero_le _, Nat.zero_le _⟩ ?_
          refine lv_isub hx hb dX0_cool_26 ?_
          refine lv_topi (fun v4 ev4 => ?_)
          replace hf := lt_e ev4 hf
          refine va_put hx hb hts n0_ tyX0 tyX0_ok nmX0 hown hK hP hD hS 0 rfl rfl 1 (Nat.le_of_ble_eq_true rfl) k1_ (fun _ h => h) rfl (v := .int v4) (tyX0_ok 1 (Nat.le_of_ble_eq_true rfl)) rfl rfl (Nat.le_of_ble_eq_true rfl) dX0_cool_27 (fun H locs hP hD hS => ?_)
          have hP : va_P D vwCl (w_burr cI cC h0 d v4 g k) H := hP
          have hD : va_D AA (w_burr cI cC h0 d v4 g k) := hD
          obtain ⟨v5, ev5⟩ : ∃ z : Int32, z = y2_2 + (1 : Int32) := ⟨_, rfl⟩
          replace hf := lt_e ev5 hf
          refine lv_iinc (v := v5) (lv' := [(2, .int v5), (0, .ref h0), (1, .int y1_2)]) hx hb dX0_cool_30 hl (k := 2) rfl (by rw [ev5]; rfl) (by decide) rfl (fun ls hl => ?_)
          refine lv_goto (tgt := 2) hx hb dX0_cool_33 (by decide) ?_
          exact IH2 y1_2 v5 v4 H locs hP hD hS ls (lv_sub hl [1, 2, 0] rfl) hf
  rw [f_X0_cool] at hf
  obtain ⟨H, hH⟩ : ∃ z : Heap, z = s.heap := ⟨_, rfl⟩
  obtain ⟨locs, hL⟩ : ∃ z : List Loc, z = [] := ⟨_, rfl⟩
  replace hP := hH ▸ hP
  replace hS : va_S AA s.heap H locs := by rw [hH, hL]; exact hS
  suffices hgoal : W p l e rmX0_cool s m args below meth c H locs 0 0 Q (F0 m 0 ls []) by rw [hH, hL] at hgoal; exact hgoal
  clear hH hL
  refine lv_iconst (v := (0 : Int32)) hx hb dX0_cool_0 (by decide) ?_
  refine lv_istore_n (lv' := [(2, .int (0 : Int32)), (0, .ref h0), (1, .int x1)]) hx hb dX0_cool_1 rfl hl (by decide) rfl (fun ls hl => ?_)
  exact L2 FU x1 (0 : Int32) w H locs hP hD hS ls (lv_sub hl [1, 2, 0] rfl) hf
abbrev rmX0_correctBy : Room := { frames := 1, cells := 0, slots := 0, locals := 21 }
set_option maxHeartbeats 4000000 in
set_option maxRecDepth 100000 in
theorem c_X0_correctBy (h0 : Nat) (x1 : Int32) (x2 : Int32) (d : Int32) (w : Int32) (g : Int32) (k : Int32) (R : Int32 × Int32) (hf : f_X0_correctBy x1 x2 d k = some R) : WrV l yX0_correctBy wsX0_correctBy rmX0_correctBy D cI cC (w_burr cI cC h0 d w g k) (w_burr cI cC h0 R.1 w g R.2) [.ref h0, .int x1, .int x2] := by
  refine en_V (cc := cX0_correctBy) (n := 4) (by decide) rfl (Nat.le_of_ble_eq_true rfl) ?_
  intro p e s m args below meth c Q AA ls hx hb hml hown hts hK hN hP hD hS hl ret
  have hown : s.vm.findClass RX0 = some m.cls := hown
  have hF : FX p m c cX0_correctBy 4 s args wsX0_correctBy RX0 D cI cC := ⟨⟨hx, hb, hml, hown, hts⟩, hK, hN⟩
  have hl : lv_has ls 4 [(0, .ref h0), (1, .int x1), (2, .int x2)] := hl
  have k1_ := hts (.fieldLink RX0 9 "DriftGrinders$Burr" "dial" "I") (List.mem_of_getElem? (i := 1) rfl)
  have k2_ := hts (.methodLink RX0 28 Lib.Math.max.name) (List.mem_of_getElem? (i := 2) rfl)
  have k3_ := hts (.static Lib.Math.max.name) (List.mem_of_getElem? (i := 3) rfl)
  have k4_ := hts (.initialized "java/lang/Math") (List.mem_of_getElem? (i := 4) rfl)
  have k5_ := hts (.code Lib.Math.max.name Lib.Math.max.code 2 (some .int)) (List.mem_of_getElem? (i := 5) rfl)
  have k6_ := hts (.methodLink RX0 34 Lib.Math.min.name) (List.mem_of_getElem? (i := 6) rfl)
  have k7_ := hts (.static Lib.Math.min.name) (List.mem_of_getElem? (i := 7) rfl)
  have k8_ := hts (.code Lib.Math.min.name Lib.Math.min.code 2 (some .int)) (List.mem_of_getElem? (i := 8) rfl)
  have k9_ := hts (.fieldLink RX0 21 "DriftGrinders$Burr" "corrections" "I") (List.mem_of_getElem? (i := 9) rfl)
  have n0_ : ∀ w ∈ wsX00, w ∈ wsX0_correctBy := fun _ h => List.mem_cons_of_mem _ (List.mem_append_right _ h)
  rw [f_X0_correctBy] at hf
  obtain ⟨H, hH⟩ : ∃ z : Heap, z = s.heap := ⟨_, rfl⟩
  obtain ⟨locs, hL⟩ : ∃ z : List Loc, z = [] := ⟨_, rfl⟩
  replace hP := hH ▸ hP
  replace hS : va_S AA s.heap H locs := by rw [hH, hL]; exact hS
  suffices hgoal : W p l e rmX0_correctBy s m args below meth c H locs 0 0 Q (F0 m 0 ls []) by rw [hH, hL] at hgoal; exact hgoal
  clear hH hL
  refine lv_aload_n hx hb dX0_correctBy_0 rfl (lv_at hl 0 rfl) ?_
  refine va_get hx hb hts n0_ hown hK hP 0 rfl rfl 0 (Nat.le_of_ble_eq_true rfl) k1_ (fun _ h => h) rfl dX0_correctBy_1 ?_
  refine lv_iload_n hx hb dX0_correctBy_4 rfl (lv_at hl 1 rfl) ?_
  refine lv_imul hx hb dX0_correctBy_5 ?_
  refine lv_iload_n hx hb dX0_correctBy_6 rfl (lv_at hl 2 rfl) ?_
  refine lv_iconst (v := (2 : Int32)) hx hb dX0_correctBy_7 (by decide) ?_
  refine lv_idiv hx hb dX0_correctBy_8 (by decide) ?_
  refine lv_iadd hx hb dX0_correctBy_9 ?_
  refine lv_iconst (v := (1 : Int32)) hx hb dX0_correctBy_10 (by decide) ?_
  refine lv_iload_n hx hb dX0_correctBy_11 rfl (lv_at hl 2 rfl) ?_
  refine va_mmax hx hb (hml.trans hl.1.symm) hown k2_ k3_ k4_ k5_ (Nat.le_of_ble_eq_true rfl) (Nat.le_of_ble_eq_true rfl) (Nat.zero_le _) (Nat.zero_le _) dX0_correctBy_12 ?_
  refine lv_topi (fun v1 ev1 => ?_)
  replace hf := lt_e ev1 hf
  obtain ⟨hg2, hf⟩ := gd_s hf
  refine lv_idiv hx hb dX0_correctBy_15 hg2 ?_
  refine lv_topi (fun v3 ev3 => ?_)
  replace hf := lt_e ev3 hf
  refine lv_istore_n (lv' := [(3, .int v3), (0, .ref h0), (1, .int x1), (2, .int x2)]) hx hb dX0_correctBy_16 rfl hl (by decide) rfl (fun ls hl => ?_)
  refine lv_aload_n hx hb dX0_correctBy_17 rfl (lv_at hl 1 rfl) ?_
  refine lv_iconst (v := (1 : Int32)) hx hb dX0_correctBy_18 (by decide) ?_
  refine lv_bipush (v := (60 : Int32)) hx hb dX0_correctBy_19 (by decide) ?_
  refine lv_iload_n hx hb dX0_correctBy_21 rfl (lv_at hl 0 rfl) ?_
  refine va_mmin hx hb (hml.trans hl.1.symm) hown k6_ k7_ k4_ k8_ (Nat.le_of_ble_eq_true rfl) (Nat.le_of_ble_eq_true rfl) (Nat.zero_le _) (Nat.zero_le _) dX0_correctBy_22 ?_
  refine lv_topi (fun v4 ev4 => ?_)
  replace hf := lt_e ev4 hf
  refine va_mmax hx hb (hml.trans hl.1.symm) hown k2_ k3_ k4_ k5_ (Nat.le_of_ble_eq_true rfl) (Nat.le_of_ble_eq_true rfl) (Nat.zero_le _) (Nat.zero_le _) dX0_correctBy_25 ?_
  refine lv_topi (fun v5 ev5 => ?_)
  replace hf := lt_e ev5 hf
  refine va_put hx hb hts n0_ tyX0 tyX0_ok nmX0 hown hK hP hD hS 0 rfl rfl 0 (Nat.le_of_ble_eq_true rfl) k1_ (fun _ h => h) rfl (v := .int v5) (tyX0_ok 0 (Nat.le_of_ble_eq_true rfl)) rfl rfl (Nat.le_of_ble_eq_true rfl) dX0_correctBy_28 (fun H locs hP hD hS => ?_)
  have hP : va_P D vwCl (w_burr cI cC h0 v5 w g k) H := hP
  have hD : va_D AA (w_burr cI cC h0 v5 w g k) := hD
  refine lv_aload_n hx hb dX0_correctBy_31 rfl (lv_at hl 1 rfl) ?_
  refine lv_dup hx hb dX0_correctBy_32 rfl ?_
  refine va_get hx hb hts n0_ hown hK hP 0 rfl rfl 3 (Nat.le_of_ble_eq_true rfl) k9_ (fun _ h => h) rfl dX0_correctBy_33 ?_
  refine lv_iconst (v := (1 : Int32)) hx hb dX0_correctBy_36 (by decide) ?_
  refine lv_iadd hx hb dX0_correctBy_37 ?_
  refine lv_topi (fun v6 ev6 => ?_)
  replace hf := lt_e ev6 hf
  refine va_put hx hb hts n0_ tyX0 tyX0_ok nmX0 hown hK hP hD hS 0 rfl rfl 3 (Nat.le_of_ble_eq_true rfl) k9_ (fun _ h => h) rfl (v := .int v6) (tyX0_ok 3 (Nat.le_of_ble_eq_true rfl)) rfl rfl (Nat.le_of_ble_eq_true rfl) dX0_correctBy_38 (fun H locs hP hD hS => ?_)
  have hP : va_P D vwCl (w_burr cI cC h0 v5 w g v6) H := hP
  have hD : va_D AA (w_burr cI cC h0 v5 w g v6) := hD
  obtain rfl := Option.some.inj hf
  exact ret 41 ls H locs dX0_correctBy_41 hP hS
abbrev rmX0_tell : Room := { frames := 3, cells := 0, slots := 0, locals := 62 }
set_option maxHeartbeats 4000000 in
set_option maxRecDepth 100000 in
theorem c_X0_tell (h0 : Nat) (x1 : Int32) (d : Int32) (w : Int32) (g : Int32) (k : Int32) (R : Int32) (hf : f_X0_tell x1 d w g k = some R) : RdI l yX0_tell wsX0_tell rmX0_tell D cI cC (w_burr cI cC h0 d w g k) [.ref h0, .int x1] R := by
  refine en_R (cc := cX0_tell) (n := 2) (by decide) rfl (Nat.le_of_ble_eq_true rfl) ?_
  intro p e s m args below meth c Q AA ls hx hb hml hown hts hK hN hP hD hl ret
  have hown : s.vm.findClass RX0 = some m.cls := hown
  have hF : FX p m c cX0_tell 2 s args wsX0_tell RX0 D cI cC := ⟨⟨hx, hb, hml, hown, hts⟩, hK, hN⟩
  have hl : lv_has ls 2 [(0, .ref h0), (1, .int x1)] := hl
  have k1_ := hts (.fieldLink RX0 9 "DriftGrinders$Burr" "dial" "I") (List.mem_of_getElem? (i := 1) rfl)
  have k2_ := hts (.fieldLink RX0 15 "DriftGrinders$Burr" "warmth" "I") (List.mem_of_getElem? (i := 2) rfl)
  have k3_ := hts (.fieldLink RX0 18 "DriftGrinders$Burr" "ground" "I") (List.mem_of_getElem? (i := 3) rfl)
  have k4_ := hts (.fieldLink RX0 21 "DriftGrinders$Burr" "corrections" "I") (List.mem_of_getElem? (i := 4) rfl)
  have n0_ : ∀ w ∈ wsX00, w ∈ wsX0_tell := fun _ h => List.mem_cons_of_mem _ (List.mem_append_right _ h)
  rw [f_X0_tell] at hf
  refine lv_iload_n hx hb dX0_tell_0 rfl (lv_at hl 1 rfl) ?_
  by_cases hc1 : x1 = 0
  · replace hf := it hc1 hf
    refine lv_tableIn (off := 31) (tgt := 32) hx hb dX0_tell_1 (by rw [hc1]; decide) (by rw [hc1]; decide) (by rw [hc1]; rfl) (by decide) ?_
    refine lv_aload_n hx hb dX0_tell_32 rfl (lv_at hl 0 rfl) ?_
    refine va_get hx hb hts n0_ hown hK hP 0 rfl rfl 0 (Nat.le_of_ble_eq_true rfl) k1_ (fun _ h => h) rfl dX0_tell_33 ?_
    obtain rfl := Option.some.inj hf
    exact ret 36 ls _ dX0_tell_36 rfl rfl
  replace hf := ie hc1 hf
  by_cases hc2 : x1 = 1
  · replace hf := it hc2 hf
    refine lv_tableIn (off := 36) (tgt := 37) hx hb dX0_tell_1 (by rw [hc2]; decide) (by rw [hc2]; decide) (by rw [hc2]; rfl) (by decide) ?_
    refine lv_aload_n hx hb dX0_tell_37 rfl (lv_at hl 0 rfl) ?_
    refine va_get hx hb hts n0_ hown hK hP 0 rfl rfl 1 (Nat.le_of_ble_eq_true rfl) k2_ (fun _ h => h) rfl dX0_tell_38 ?_
    obtain rfl := Option.some.inj hf
    exact ret 41 ls _ dX0_tell_41 rfl rfl
  replace hf := ie hc2 hf
  by_cases hc3 : x1 = 2
  · replace hf := it hc3 hf
    refine lv_tableIn (off := 41) (tgt := 42) hx hb dX0_tell_1 (by rw [hc3]; decide) (by rw [hc3]; decide) (by rw [hc3]; rfl) (by decide) ?_
    refine lv_aload_n hx hb dX0_tell_42 rfl (lv_at hl 0 rfl) ?_
    obtain ⟨q4, hq4, hf⟩ := ob hf
    refine cl_RV (As := []) (rest := []) hF hP hD (c_X0_gap h0 d w g k q4 hq4) (cwV 0 hts gX0_tell_X0_gap rfl rfl rfl (by decide +kernel) ⟨(Nat.le_of_ble_eq_true rfl), (Nat.le_of_ble_eq_true rfl)⟩) [0] rfl (by decide +kernel) (va_recv hK hP (ci := 0) (q0 := 0) rfl rfl) rfl rfl hl.1 (Nat.le_of_ble_eq_true rfl) dX0_tell_43 ⟨Nat.zero_le _, Nat.zero_le _⟩ ?_
    obtain rfl := Option.some.inj hf
    exact ret 46 ls _ dX0_tell_46 rfl rfl
  replace hf := ie hc3 hf
  by_cases hc5 : x1 = 3
  · replace hf := it hc5 hf
    refine lv_tableIn (off := 46) (tgt := 47) hx hb dX0_tell_1 (by rw [hc5]; decide) (by rw [hc5]; decide) (by rw [hc5]; rfl) (by decide) ?_
    refine lv_aload_n hx hb dX0_tell_47 rfl (lv_at hl 0 rfl) ?_
    refine va_get hx hb hts n0_ hown hK hP 0 rfl rfl 2 (Nat.le_of_ble_eq_true rfl) k3_ (fun _ h => h) rfl dX0_tell_48 ?_
    obtain rfl := Option.some.inj hf
    exact ret 51 ls _ dX0_tell_51 rfl rfl
  replace hf := ie hc5 hf
  refine lv_tableOut (tgt := 52) hx hb dX0_tell_1 (by have q0 := gt_ne hc1 (k := 0) rfl; have q1 := gt_ne hc2 (k := 1) rfl; have q2 := gt_ne hc3 (k := 2) rfl; have q3 := gt_ne hc5 (k := 3) rfl; omega) (by decide) ?_
  refine lv_aload_n hx hb dX0_tell_52 rfl (lv_at hl 0 rfl) ?_
  refine va_get hx hb hts n0_ hown hK hP 0 rfl rfl 3 (Nat.le_of_ble_eq_true rfl) k4_ (fun _ h => h) rfl dX0_tell_53 ?_
  obtain rfl := Option.some.inj hf
  exact ret 56 ls _ dX0_tell_56 rfl rfl
abbrev rmX0_copyFrom : Room := { frames := 1, cells := 0, slots := 0, locals := 0 }
set_option maxHeartbeats 4000000 in
set_option maxRecDepth 100000 in
theorem c_X0_copyFrom (h0 : Nat) (h1 : Nat) (d : Int32) (w : Int32) (g : Int32) (k : Int32) (d2 : Int32) (w2 : Int32) (g2 : Int32) (k2 : Int32) (R : Int32 × Int32 × Int32 × Int32) (hf : f_X0_copyFrom d w g k d2 w2 g2 k2 = some R) : WrV l yX0_copyFrom wsX0_copyFrom rmX0_copyFrom D cI cC (w_burr2 cI cC h0 h1 d w g k d2 w2 g2 k2) (w_burr2 cI cC h0 h1 R.1 R.2.1 R.2.2.1 R.2.2.2 d2 w2 g2 k2) [.ref h0, .ref h1] := by
  refine en_V (cc := cX0_copyFrom) (n := 2) (by decide) rfl (Nat.le_of_ble_eq_true rfl) ?_
  intro p e s m args below meth c Q AA ls hx hb hml hown hts hK hN hP hD hS hl ret
  have hown : s.vm.findClass RX0 = some m.cls := hown
  have hF : FX p m c cX0_copyFrom 2 s args wsX0_copyFrom RX0 D cI cC := ⟨⟨hx, hb, hml, hown, hts⟩, hK, hN⟩
  have hl : lv_has ls 2 [(0, .ref h0), (1, .ref h1)] := hl
  have k1_ := hts (.fieldLink RX0 9 "DriftGrinders$Burr" "dial" "I") (List.mem_of_getElem? (i := 1) rfl)
  have k2_ := hts (.fieldLink RX0 15 "DriftGrinders$Burr" "warmth" "I") (List.mem_of_getElem? (i := 2) rfl)
  have k3_ := hts (.fieldLink RX0 18 "DriftGrinders$Burr" "ground" "I") (List.mem_of_getElem? (i := 3) rfl)
  have k4_ := hts (.fieldLink RX0 21 "DriftGrinders$Burr" "corrections" "I") (List.mem_of_getElem? (i := 4) rfl)
  have n0_ : ∀ w ∈ wsX00, w ∈ wsX0_copyFrom := fun _ h => List.mem_cons_of_mem _ (List.mem_append_right _ h)
  rw [f_X0_copyFrom] at hf
  obtain ⟨H, hH⟩ : ∃ z : Heap, z = s.heap := ⟨_, rfl⟩
  obtain ⟨locs, hL⟩ : ∃ z : List Loc, z = [] := ⟨_, rfl⟩
  replace hP := hH ▸ hP
  replace hS : va_S AA s.heap H locs := by rw [hH, hL]; exact hS
  suffices hgoal : W p l e rmX0_copyFrom s m args below meth c H locs 0 0 Q (F0 m 0 ls []) by rw [hH, hL] at hgoal; exact hgoal
  clear hH hL
  refine lv_aload_n hx hb dX0_copyFrom_0 rfl (lv_at hl 0 rfl) ?_
  refine lv_aload_n hx hb dX0_copyFrom_1 rfl (lv_at hl 1 rfl) ?_
  refine va_get hx hb hts n0_ hown hK hP 1 rfl rfl 0 (Nat.le_of_ble_eq_true rfl) k1_ (fun _ h => h) rfl dX0_copyFrom_2 ?_
  refine va_put hx hb hts n0_ tyX0 tyX0_ok nmX0 hown hK hP hD hS 0 rfl rfl 0 (Nat.le_of_ble_eq_true rfl) k1_ (fun _ h => h) rfl (v := .int d2) (tyX0_ok 0 (Nat.le_of_ble_eq_true rfl)) rfl rfl (Nat.le_of_ble_eq_true rfl) dX0_copyFrom_5 (fun H locs hP hD hS => ?_)
  have hP : va_P D vwCl (w_burr2 cI cC h0 h1 d2 w g k d2 w2 g2 k2) H := hP
  have hD : va_D AA (w_burr2 cI cC h0 h1 d2 w g k d2 w2 g2 k2) := hD
  refine lv_aload_n hx hb dX0_copyFrom_8 rfl (lv_at hl 0 rfl) ?_
  refine lv_aload_n hx hb dX0_copyFrom_9 rfl (lv_at hl 1 rfl) ?_
  refine va_get hx hb hts n0_ hown hK hP 1 rfl rfl 1 (Nat.le_of_ble_eq_true rfl) k2_ (fun _ h => h) rfl dX0_copyFrom_10 ?_
  refine va_put hx hb hts n0_ tyX0 tyX0_ok nmX0 hown hK hP hD hS 0 rfl rfl 1 (Nat.le_of_ble_eq_true rfl) k2_ (fun _ h => h) rfl (v := .int w2) (tyX0_ok 1 (Nat.le_of_ble_eq_true rfl)) rfl rfl (Nat.le_of_ble_eq_true rfl) dX0_copyFrom_13 (fun H locs hP hD hS => ?_)
  have hP : va_P D vwCl (w_burr2 cI cC h0 h1 d2 w2 g k d2 w2 g2 k2) H := hP
  have hD : va_D AA (w_burr2 cI cC h0 h1 d2 w2 g k d2 w2 g2 k2) := hD
  refine lv_aload_n hx hb dX0_copyFrom_16 rfl (lv_at hl 0 rfl) ?_
  refine lv_aload_n hx hb dX0_copyFrom_17 rfl (lv_at hl 1 rfl) ?_
  refine va_get hx hb hts n0_ hown hK hP 1 rfl rfl 2 (Nat.le_of_ble_eq_true rfl) k3_ (fun _ h => h) rfl dX0_copyFrom_18 ?_
  refine va_put hx hb hts n0_ tyX0 tyX0_ok nmX0 hown hK hP hD hS 0 rfl rfl 2 (Nat.le_of_ble_eq_true rfl) k3_ (fun _ h => h) rfl (v := .int g2) (tyX0_ok 2 (Nat.le_of_ble_eq_true rfl)) rfl rfl (Nat.le_of_ble_eq_true rfl) dX0_copyFrom_21 (fun H locs hP hD hS => ?_)
  have hP : va_P D vwCl (w_burr2 cI cC h0 h1 d2 w2 g2 k d2 w2 g2 k2) H := hP
  have hD : va_D AA (w_burr2 cI cC h0 h1 d2 w2 g2 k d2 w2 g2 k2) := hD
  refine lv_aload_n hx hb dX0_copyFrom_24 rfl (lv_at hl 0 rfl) ?_
  refine lv_aload_n hx hb dX0_copyFrom_25 rfl (lv_at hl 1 rfl) ?_
  refine va_get hx hb hts n0_ hown hK hP 1 rfl rfl 3 (Nat.le_of_ble_eq_true rfl) k4_ (fun _ h => h) rfl dX0_copyFrom_26 ?_
  refine va_put hx hb hts n0_ tyX0 tyX0_ok nmX0 hown hK hP hD hS 0 rfl rfl 3 (Nat.le_of_ble_eq_true rfl) k4_ (fun _ h => h) rfl (v := .int k2) (tyX0_ok 3 (Nat.le_of_ble_eq_true rfl)) rfl rfl (Nat.le_of_ble_eq_true rfl) dX0_copyFrom_29 (fun H locs hP hD hS => ?_)
  have hP : va_P D vwCl (w_burr2 cI cC h0 h1 d2 w2 g2 k2 d2 w2 g2 k2) H := hP
  have hD : va_D AA (w_burr2 cI cC h0 h1 d2 w2 g2 k2 d2 w2 g2 k2) := hD
  obtain rfl := Option.some.inj hf
  exact ret 32 ls H locs dX0_copyFrom_32 hP hS
end
