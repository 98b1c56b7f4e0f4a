section
variable {l : Launch} {D : va_G} {cI cC : ClassId}

def w_hop (cI cC : ClassId) (h0 : Nat) (h1 : Nat) (h2 : Nat) (h3 : Nat) (N : Nat) (A : Nat → Int32) (M : Nat → Int32) (n : Int32) (t : Int32) : va_W := [(h0, .inr (3, [.ref h1])), (h1, .inr (5, [.ref h2, .ref h3, .int n, .int t])), (h2, .inl (cI, N, .inl A)), (h3, .inl (cI, N, .inl M))]
def w_hop2 (cI cC : ClassId) (h0 : Nat) (h1 : Nat) (h2 : Nat) (h3 : Nat) (h4 : Nat) (h5 : Nat) (h6 : Nat) (h7 : Nat) (N : Nat) (N2 : Nat) (A : Nat → Int32) (M : Nat → Int32) (n : Int32) (t : Int32) (A2 : Nat → Int32) (M2 : Nat → Int32) (n2 : Int32) (t2 : Int32) : va_W := [(h0, .inr (3, [.ref h1])), (h1, .inr (5, [.ref h2, .ref h3, .int n, .int t])), (h2, .inl (cI, N, .inl A)), (h3, .inl (cI, N, .inl M)), (h4, .inr (3, [.ref h5])), (h5, .inr (5, [.ref h6, .ref h7, .int n2, .int t2])), (h6, .inl (cI, N2, .inl A2)), (h7, .inl (cI, N2, .inl M2))]
def w_hoprow (cI cC : ClassId) (h0 : Nat) (h1 : Nat) (h2 : Nat) (h3 : Nat) (h4 : Nat) (h5 : Nat) (h6 : Nat) (N : Nat) (N2 : Nat) (A : Nat → Int32) (M : Nat → Int32) (n : Int32) (t : Int32) (A2 : Nat → Int32) (M2 : Nat → Int32) (n2 : Int32) (t2 : Int32) : va_W := [(h0, .inr (3, [.ref h1])), (h1, .inr (5, [.ref h2, .ref h3, .int n, .int t])), (h2, .inl (cI, N, .inl A)), (h3, .inl (cI, N, .inl M)), (h4, .inr (5, [.ref h5, .ref h6, .int n2, .int t2])), (h5, .inl (cI, N2, .inl A2)), (h6, .inl (cI, N2, .inl M2))]
abbrev rmX3_amount : Room := { frames := 1, cells := 0, slots := 0, locals := 0 }
set_option maxHeartbeats 4000000 in
set_option maxRecDepth 100000 in
theorem c_X3_amount (h0 : Nat) (h1 : Nat) (h2 : Nat) (h3 : Nat) (N : Nat) (A : Nat → Int32) (M : Nat → Int32) (n : Int32) (t : Int32) (R : Int32) (hf : f_X3_amount N t = some R) : RdI l yX3_amount wsX3_amount rmX3_amount D cI cC (w_hop cI cC h0 h1 h2 h3 N A M n t) [.ref h0] R := by
  refine en_R (cc := cX3_amount) (n := 1) (by decide) rfl (Nat.le_of_ble_eq_true rfl) ?_
  intro p e s m args below meth c Q AA ls hx hb hml hown hts hK hN hP hD hl ret
  have hown : s.vm.findClass RX3 = some m.cls := hown
  have hF : FX p m c cX3_amount 1 s args wsX3_amount RX3 D cI cC := ⟨⟨hx, hb, hml, hown, hts⟩, hK, hN⟩
  have hl : lv_has ls 1 [(0, .ref h0)] := hl
  have k1_ := hts (.fieldLink RX3 14 "DriftGrinders$Hopper" "lots" "LDriftGrinders$Row;") (List.mem_of_getElem? (i := 1) rfl)
  have n3_ : ∀ w ∈ wsX30, w ∈ wsX3_amount := fun _ h => List.mem_cons_of_mem _ (List.mem_append_left _ (List.mem_append_right _ h))
  have n5_ : ∀ w ∈ wsX50, w ∈ wsX3_amount := fun _ h => List.mem_cons_of_mem _ (List.mem_append_right _ h)
  rw [f_X3_amount] at hf
  refine lv_aload_n hx hb dX3_amount_0 rfl (lv_at hl 0 rfl) ?_
  refine va_get hx hb hts n3_ hown hK hP 0 rfl rfl 0 (Nat.le_of_ble_eq_true rfl) k1_ (fun _ h => h) rfl dX3_amount_1 ?_
  refine va_getN hx hb hts n5_ hown hK hP 1 rfl rfl 3 (Nat.le_of_ble_eq_true rfl) (hN.get 2 rfl) (fun _ h => h) rfl dX3_amount_4 ?_
  obtain rfl := Option.some.inj hf
  exact ret 7 ls _ dX3_amount_7 rfl rfl
abbrev rmX3_endsWith : Room := { frames := 2, cells := 0, slots := 0, locals := 21 }
set_option maxHeartbeats 4000000 in
set_option maxRecDepth 100000 in
theorem c_X3_endsWith (h0 : Nat) (h1 : Nat) (h2 : Nat) (h3 : Nat) (N : Nat) (x1 : Int32) (A : Nat → Int32) (M : Nat → Int32) (n : Int32) (t : Int32) (R : Int32) (hf : f_X3_endsWith N x1 M n = some R) : RdI l yX3_endsWith wsX3_endsWith rmX3_endsWith D cI cC (w_hop cI cC h0 h1 h2 h3 N A M n t) [.ref h0, .int x1] R := by
  refine en_R (cc := cX3_endsWith) (n := 2) (by decide) rfl (Nat.le_of_ble_eq_true rfl) ?_
  intro p e s m args below meth c Q AA ls hx hb hml hown hts hK hN hP hD hl ret
  have hown : s.vm.findClass RX3 = some m.cls := hown
  have hF : FX p m c cX3_endsWith 2 s args wsX3_endsWith RX3 D cI cC := ⟨⟨hx, hb, hml, hown, hts⟩, hK, hN⟩
  have hl : lv_has ls 2 [(0, .ref h0), (1, .int x1)] := hl
  have k1_ := hts (.fieldLink RX3 14 "DriftGrinders$Hopper" "lots" "LDriftGrinders$Row;") (List.mem_of_getElem? (i := 1) rfl)
  have n3_ : ∀ w ∈ wsX30, w ∈ wsX3_endsWith := fun _ h => List.mem_cons_of_mem _ (List.mem_append_left _ (List.mem_append_right _ h))
  have n5_ : ∀ w ∈ wsX50, w ∈ wsX3_endsWith := fun _ h => List.mem_cons_of_mem _ (List.mem_append_right _ h)
  rw [f_X3_endsWith] at hf
  refine lv_aload_n hx hb dX3_endsWith_0 rfl (lv_at hl 0 rfl) ?_
  refine va_get hx hb hts n3_ hown hK hP 0 rfl rfl 0 (Nat.le_of_ble_eq_true rfl) k1_ (fun _ h => h) rfl dX3_endsWith_1 ?_
  refine va_getN hx hb hts n5_ hown hK hP 1 rfl rfl 2 (Nat.le_of_ble_eq_true rfl) (hN.get 0 rfl) (fun _ h => h) rfl dX3_endsWith_4 ?_
  refine lv_if_le (tgt := 34) hx hb dX3_endsWith_7 (by decide) (fun hc1 => ?_) (fun hc1 => ?_)
  · replace hf := it hc1 hf
    refine lv_iconst (v := (0 : Int32)) hx hb dX3_endsWith_34 (by decide) ?_
    obtain rfl := Option.some.inj hf
    exact ret 35 ls _ dX3_endsWith_35 (by decide) rfl
  · replace hf := ie hc1 hf
    refine lv_aload_n hx hb dX3_endsWith_10 rfl (lv_at hl 0 rfl) ?_
    refine va_get hx hb hts n3_ hown hK hP 0 rfl rfl 0 (Nat.le_of_ble_eq_true rfl) k1_ (fun _ h => h) rfl dX3_endsWith_11 ?_
    refine lv_aload_n hx hb dX3_endsWith_14 rfl (lv_at hl 0 rfl) ?_
    refine va_get hx hb hts n3_ hown hK hP 0 rfl rfl 0 (Nat.le_of_ble_eq_true rfl) k1_ (fun _ h => h) rfl dX3_endsWith_15 ?_
    refine va_getN hx hb hts n5_ hown hK hP 1 rfl rfl 2 (Nat.le_of_ble_eq_true rfl) (hN.get 0 rfl) (fun _ h => h) rfl dX3_endsWith_18 ?_
    refine lv_iconst (v := (1 : Int32)) hx hb dX3_endsWith_21 (by decide) ?_
    refine lv_isub hx hb dX3_endsWith_22 ?_
    obtain ⟨q2, hq2, hf⟩ := ob hf
    refine cl_RV (As := [.int (n - (1 : Int32))]) (rest := []) hF hP hD (c_X5_markAt h1 h2 h3 N (n - (1 : Int32)) A M n t q2 hq2) (cwV 1 hts gX3_endsWith_X5_markAt rfl rfl rfl (by decide +kernel) ⟨(Nat.le_of_ble_eq_true rfl), (Nat.le_of_ble_eq_true rfl)⟩) [1, 2, 3] rfl (by decide +kernel) (va_recv hK hP (ci := 5) (q0 := 1) rfl rfl) rfl rfl hl.1 (Nat.le_of_ble_eq_true rfl) dX3_endsWith_23 ⟨Nat.zero_le _, Nat.zero_le _⟩ ?_
    refine lv_iload_n hx hb dX3_endsWith_26 rfl (lv_at hl 1 rfl) ?_
    refine lv_icmp_ne (tgt := 34) hx hb dX3_endsWith_27 (by decide) (fun hc3 => ?_) (fun hc3 => ?_)
    · replace hf := ie hc3 hf
      refine lv_iconst (v := (0 : Int32)) hx hb dX3_endsWith_34 (by decide) ?_
      obtain rfl := Option.some.inj hf
      exact ret 35 ls _ dX3_endsWith_35 (by decide) rfl
    · replace hf := it hc3 hf
      refine lv_iconst (v := (1 : Int32)) hx hb dX3_endsWith_30 (by decide) ?_
      refine lv_goto (tgt := 35) hx hb dX3_endsWith_31 (by decide) ?_
      obtain rfl := Option.some.inj hf
      exact ret 35 ls _ dX3_endsWith_35 (by decide) rfl
abbrev rmX3_hasRoomFor : Room := { frames := 3, cells := 0, slots := 0, locals := 42 }
set_option maxHeartbeats 4000000 in
set_option maxRecDepth 100000 in
theorem c_X3_hasRoomFor (h0 : Nat) (h1 : Nat) (h2 : Nat) (h3 : Nat) (N : Nat) (x1 : Int32) (x2 : Int32) (A : Nat → Int32) (M : Nat → Int32) (n : Int32) (t : Int32) (R : Int32) (hf : f_X3_hasRoomFor N x1 x2 M n t = some R) : RdI l yX3_hasRoomFor wsX3_hasRoomFor rmX3_hasRoomFor D cI cC (w_hop cI cC h0 h1 h2 h3 N A M n t) [.ref h0, .int x1, .int x2] R := by
  refine en_R (cc := cX3_hasRoomFor) (n := 3) (by decide) rfl (Nat.le_of_ble_eq_true rfl) ?_
  intro p e s m args below meth c Q AA ls hx hb hml hown hts hK hN hP hD hl ret
  have hown : s.vm.findClass RX3 = some m.cls := hown
  have hF : FX p m c cX3_hasRoomFor 3 s args wsX3_hasRoomFor RX3 D cI cC := ⟨⟨hx, hb, hml, hown, hts⟩, hK, hN⟩
  have hl : lv_has ls 3 [(0, .ref h0), (1, .int x1), (2, .int x2)] := hl
  have k1_ := hts (.fieldLink RX3 14 "DriftGrinders$Hopper" "lots" "LDriftGrinders$Row;") (List.mem_of_getElem? (i := 1) rfl)
  have n3_ : ∀ w ∈ wsX30, w ∈ wsX3_hasRoomFor := fun _ h => List.mem_cons_of_mem _ (List.mem_append_left _ (List.mem_append_right _ h))
  have n5_ : ∀ w ∈ wsX50, w ∈ wsX3_hasRoomFor := fun _ h => List.mem_cons_of_mem _ (List.mem_append_right _ h)
  have J35 : ∀ ls : Array Slot, lv_has ls 3 [] → f_X3_hasRoomFor_J35 N M n t = some R → W p l e rmX3_hasRoomFor s m args below meth c s.heap [] 0 0 Q (F0 m 35 ls []) := by
    intro  ls hl hf
    rw [f_X3_hasRoomFor_J35] at hf
    refine lv_iconst (v := (1 : Int32)) hx hb dX3_hasRoomFor_35 (by decide) ?_
    refine lv_goto (tgt := 40) hx hb dX3_hasRoomFor_36 (by decide) ?_
    obtain rfl := Option.some.inj hf
    exact ret 40 ls _ dX3_hasRoomFor_40 (by decide) rfl
  rw [f_X3_hasRoomFor] at hf
  refine lv_aload_n hx hb dX3_hasRoomFor_0 rfl (lv_at hl 0 rfl) ?_
  refine va_get hx hb hts n3_ hown hK hP 0 rfl rfl 0 (Nat.le_of_ble_eq_true rfl) k1_ (fun _ h => h) rfl dX3_hasRoomFor_1 ?_
  refine va_getN hx hb hts n5_ hown hK hP 1 rfl rfl 3 (Nat.le_of_ble_eq_true rfl) (hN.get 2 rfl) (fun _ h => h) rfl dX3_hasRoomFor_4 ?_
  refine lv_iload_n hx hb dX3_hasRoomFor_7 rfl (lv_at hl 2 rfl) ?_
  refine lv_iadd hx hb dX3_hasRoomFor_8 ?_
  refine lv_sipush (v := (4000 : Int32)) hx hb dX3_hasRoomFor_9 (by decide) ?_
  refine lv_icmp_gt (tgt := 39) hx hb dX3_hasRoomFor_12 (by decide) (fun hc1 => ?_) (fun hc1 => ?_)
  · replace hf := it hc1 hf
    refine lv_iconst (v := (0 : Int32)) hx hb dX3_hasRoomFor_39 (by decide) ?_
    obtain rfl := Option.some.inj hf
    exact ret 40 ls _ dX3_hasRoomFor_40 (by decide) rfl
  · replace hf := ie hc1 hf
    refine lv_aload_n hx hb dX3_hasRoomFor_15 rfl (lv_at hl 0 rfl) ?_
    refine va_get hx hb hts n3_ hown hK hP 0 rfl rfl 0 (Nat.le_of_ble_eq_true rfl) k1_ (fun _ h => h) rfl dX3_hasRoomFor_16 ?_
    refine va_getN hx hb hts n5_ hown hK hP 1 rfl rfl 2 (Nat.le_of_ble_eq_true rfl) (hN.get 0 rfl) (fun _ h => h) rfl dX3_hasRoomFor_19 ?_
    refine lv_bipush (v := (6 : Int32)) hx hb dX3_hasRoomFor_22 (by decide) ?_
    refine lv_icmp_lt (tgt := 35) hx hb dX3_hasRoomFor_24 (by decide) (fun hc2 => ?_) (fun hc2 => ?_)
    · replace hf := it hc2 hf
      exact J35  ls (lv_sub hl [] rfl) hf
    · replace hf := ie hc2 hf
      refine lv_aload_n hx hb dX3_hasRoomFor_27 rfl (lv_at hl 0 rfl) ?_
      refine lv_iload_n hx hb dX3_hasRoomFor_28 rfl (lv_at hl 1 rfl) ?_
      obtain ⟨q3, hq3, hf⟩ := ob hf
      refine cl_RV (As := [.int x1]) (rest := []) hF hP hD (c_X3_endsWith h0 h1 h2 h3 N x1 A M n t q3 hq3) (cwV 1 hts gX3_hasRoomFor_X3_endsWith rfl rfl rfl (by decide +kernel) ⟨(Nat.le_of_ble_eq_true rfl), (Nat.le_of_ble_eq_true rfl)⟩) [0, 1, 2, 3] rfl (by decide +kernel) (va_recv hK hP (ci := 3) (q0 := 0) rfl rfl) rfl rfl hl.1 (Nat.le_of_ble_eq_true rfl) dX3_hasRoomFor_29 ⟨Nat.zero_le _, Nat.zero_le _⟩ ?_
      refine lv_if_eq (tgt := 39) hx hb dX3_hasRoomFor_32 (by decide) (fun hc4 => ?_) (fun hc4 => ?_)
      · replace hf := it hc4 hf
        refine lv_iconst (v := (0 : Int32)) hx hb dX3_hasRoomFor_39 (by decide) ?_
        obtain rfl := Option.some.inj hf
        exact ret 40 ls _ dX3_hasRoomFor_40 (by decide) rfl
      · replace hf := ie hc4 hf
        exact J35  ls (lv_sub hl [] rfl) hf
abbrev rmX3_pourIn : Room := { frames := 3, cells := 0, slots := 0, locals := 42 }
set_option maxHeartbeats 4000000 in
set_option maxRecDepth 100000 in
theorem c_X3_pourIn (h0 : Nat) (h1 : Nat) (h2 : Nat) (h3 : Nat) (N : Nat) (x1 : Int32) (x2 : Int32) (A : Nat → Int32) (M : Nat → Int32) (n : Int32) (t : Int32) (R : (Nat → Int32) × (Nat → Int32) × Int32 × Int32) (hf : f_X3_pourIn N x1 x2 A M n t = some R) : WrV l yX3_pourIn wsX3_pourIn rmX3_pourIn D cI cC (w_hop cI cC h0 h1 h2 h3 N A M n t) (w_hop cI cC h0 h1 h2 h3 N R.1 R.2.1 R.2.2.1 R.2.2.2) [.ref h0, .int x1, .int x2] := by
  refine en_V (cc := cX3_pourIn) (n := 3) (by decide) rfl (Nat.le_of_ble_eq_true rfl) ?_
  intro p e s m args below meth c Q AA ls hx hb hml hown hts hK hN hP hD hS hl ret
  have hown : s.vm.findClass RX3 = some m.cls := hown
  have hF : FX p m c cX3_pourIn 3 s args wsX3_pourIn RX3 D cI cC := ⟨⟨hx, hb, hml, hown, hts⟩, hK, hN⟩
  have hl : lv_has ls 3 [(0, .ref h0), (1, .int x1), (2, .int x2)] := hl
  have k1_ := hts (.fieldLink RX3 14 "DriftGrinders$Hopper" "lots" "LDriftGrinders$Row;") (List.mem_of_getElem? (i := 1) rfl)
  have n3_ : ∀ w ∈ wsX30, w ∈ wsX3_pourIn := fun _ h => List.mem_cons_of_mem _ (List.mem_append_left _ (List.mem_append_right _ h))
  rw [f_X3_pourIn] at hf
  obtain ⟨H, hH⟩ : ∃ z : Heap, z = s.heap := ⟨_, rfl⟩
  obtain ⟨locs, hL⟩ : ∃ z : List Loc, z = [] := ⟨_, rfl⟩
  replace hP := hH ▸ hP
  replace hS : va_S AA s.heap H locs := by rw [hH, hL]; exact hS
  suffices hgoal : W p l e rmX3_pourIn s m args below meth c H locs 0 0 Q (F0 m 0 ls []) by rw [hH, hL] at hgoal; exact hgoal
  clear hH hL
  refine lv_aload_n hx hb dX3_pourIn_0 rfl (lv_at hl 0 rfl) ?_
  refine lv_iload_n hx hb dX3_pourIn_1 rfl (lv_at hl 1 rfl) ?_
  obtain ⟨q1, hq1, hf⟩ := ob hf
  refine cl_RV (As := [.int x1]) (rest := []) hF hP hD (c_X3_endsWith h0 h1 h2 h3 N x1 A M n t q1 hq1) (cwV 1 hts gX3_pourIn_X3_endsWith rfl rfl rfl (by decide +kernel) ⟨(Nat.le_of_ble_eq_true rfl), (Nat.le_of_ble_eq_true rfl)⟩) [0, 1, 2, 3] rfl (by decide +kernel) (va_recv hK hP (ci := 3) (q0 := 0) rfl rfl) rfl rfl hl.1 (Nat.le_of_ble_eq_true rfl) dX3_pourIn_2 ⟨Nat.zero_le _, Nat.zero_le _⟩ ?_
  refine lv_if_eq (tgt := 19) hx hb dX3_pourIn_5 (by decide) (fun hc2 => ?_) (fun hc2 => ?_)
  · replace hf := it hc2 hf
    refine lv_aload_n hx hb dX3_pourIn_19 rfl (lv_at hl 0 rfl) ?_
    refine va_get hx hb hts n3_ hown hK hP 0 rfl rfl 0 (Nat.le_of_ble_eq_true rfl) k1_ (fun _ h => h) rfl dX3_pourIn_20 ?_
    refine lv_iload_n hx hb dX3_pourIn_23 rfl (lv_at hl 2 rfl) ?_
    refine lv_iload_n hx hb dX3_pourIn_24 rfl (lv_at hl 1 rfl) ?_
    obtain ⟨q3, hq3, hf⟩ := ob hf
    refine cl_VV (W1 := (w_hop cI cC h0 h1 h2 h3 N q3.1 q3.2.1 q3.2.2.1 q3.2.2.2)) (As := [.int x2, .int x1]) (rest := []) hF hP hD hS (c_X5_append h1 h2 h3 N x2 x1 A M n t q3 hq3) (cwV 2 hts gX3_pourIn_X5_append rfl rfl rfl (by decide +kernel) ⟨(Nat.le_of_ble_eq_true rfl), (Nat.le_of_ble_eq_true rfl)⟩) [1, 2, 3] rfl (by decide +kernel) (va_recv hK hP (ci := 5) (q0 := 1) rfl rfl) rfl rfl hl.1 (Nat.le_of_ble_eq_true rfl) dX3_pourIn_25 ⟨Nat.zero_le _, Nat.zero_le _⟩ (hA2 [h1, h2, h3] rfl rfl) [0] rfl [(h0, .inr (3, [.ref h1]))] rfl rfl (nW := 4) rfl (by decide +kernel) (fun H locs hP hD hS => ?_)
    obtain rfl := Option.some.inj hf
    exact ret 28 ls H locs dX3_pourIn_28 hP hS
  · replace hf := ie hc2 hf
    refine lv_aload_n hx hb dX3_pourIn_8 rfl (lv_at hl 0 rfl) ?_
    refine va_get hx hb hts n3_ hown hK hP 0 rfl rfl 0 (Nat.le_of_ble_eq_true rfl) k1_ (fun _ h => h) rfl dX3_pourIn_9 ?_
    refine lv_iload_n hx hb dX3_pourIn_12 rfl (lv_at hl 2 rfl) ?_
    obtain ⟨q4, hq4, hf⟩ := ob hf
    refine cl_VV (W1 := (w_hop cI cC h0 h1 h2 h3 N q4.1 M n q4.2)) (As := [.int x2]) (rest := []) hF hP hD hS (c_X5_addToLast h1 h2 h3 N x2 A M n t q4 hq4) (cwV 1 hts gX3_pourIn_X5_addToLast rfl rfl rfl (by decide +kernel) ⟨(Nat.le_of_ble_eq_true rfl), (Nat.le_of_ble_eq_true rfl)⟩) [1, 2, 3] rfl (by decide +kernel) (va_recv hK hP (ci := 5) (q0 := 1) rfl rfl) rfl rfl hl.1 (Nat.le_of_ble_eq_true rfl) dX3_pourIn_13 ⟨Nat.zero_le _, Nat.zero_le _⟩ (hA2 [h1, h2, h3] rfl rfl) [0] rfl [(h0, .inr (3, [.ref h1]))] rfl rfl (nW := 4) rfl (by decide +kernel) (fun H locs hP hD hS => ?_)
    refine lv_goto (tgt := 28) hx hb dX3_pourIn_16 (by decide) ?_
    obtain rfl := Option.some.inj hf
    exact ret 28 ls H locs dX3_pourIn_28 hP hS
abbrev rmX3_tell : Room := { frames := 2, cells := 0, slots := 0, locals := 21 }
set_option maxHeartbeats 4000000 in
set_option maxRecDepth 100000 in
theorem c_X3_tell (h0 : Nat) (h1 : Nat) (h2 : Nat) (h3 : Nat) (N : Nat) (x1 : Int32) (x2 : Int32) (A : Nat → Int32) (M : Nat → Int32) (n : Int32) (t : Int32) (R : Int32) (hf : f_X3_tell N x1 x2 A M n = some R) : RdI l yX3_tell wsX3_tell rmX3_tell D cI cC (w_hop cI cC h0 h1 h2 h3 N A M n t) [.ref h0, .int x1, .int x2] R := by
  refine en_R (cc := cX3_tell) (n := 3) (by decide) rfl (Nat.le_of_ble_eq_true rfl) ?_
  intro p e s m args below meth c Q AA ls hx hb hml hown hts hK hN hP hD hl ret
  have hown : s.vm.findClass RX3 = some m.cls := hown
  have hF : FX p m c cX3_tell 3 s args wsX3_tell RX3 D cI cC := ⟨⟨hx, hb, hml, hown, hts⟩, hK, hN⟩
  have hl : lv_has ls 3 [(0, .ref h0), (1, .int x1), (2, .int x2)] := hl
  have k1_ := hts (.fieldLink RX3 14 "DriftGrinders$Hopper" "lots" "LDriftGrinders$Row;") (List.mem_of_getElem? (i := 1) rfl)
  have k2_ := hts (.constant RX3 54 (-1000004)) (List.mem_of_getElem? (i := 2) rfl)
  have n3_ : ∀ w ∈ wsX30, w ∈ wsX3_tell := fun _ h => List.mem_cons_of_mem _ (List.mem_append_left _ (List.mem_append_right _ h))
  have n5_ : ∀ w ∈ wsX50, w ∈ wsX3_tell := fun _ h => List.mem_cons_of_mem _ (List.mem_append_right _ h)
  rw [f_X3_tell] at hf
  refine lv_iload_n hx hb dX3_tell_0 rfl (lv_at hl 1 rfl) ?_
  refine lv_if_lt (tgt := 15) hx hb dX3_tell_1 (by decide) (fun hc1 => ?_) (fun hc1 => ?_)
  · replace hf := it hc1 hf
    refine lv_ldc hx hb hown k2_ dX3_tell_15 ?_
    obtain rfl := Option.some.inj hf
    exact ret 17 ls _ dX3_tell_17 rfl rfl
  · replace hf := ie hc1 hf
    refine lv_iload_n hx hb dX3_tell_4 rfl (lv_at hl 1 rfl) ?_
    refine lv_aload_n hx hb dX3_tell_5 rfl (lv_at hl 0 rfl) ?_
    refine va_get hx hb hts n3_ hown hK hP 0 rfl rfl 0 (Nat.le_of_ble_eq_true rfl) k1_ (fun _ h => h) rfl dX3_tell_6 ?_
    refine va_getN hx hb hts n5_ hown hK hP 1 rfl rfl 2 (Nat.le_of_ble_eq_true rfl) (hN.get 0 rfl) (fun _ h => h) rfl dX3_tell_9 ?_
    refine lv_icmp_lt (tgt := 18) hx hb dX3_tell_12 (by decide) (fun hc2 => ?_) (fun hc2 => ?_)
    · replace hf := it hc2 hf
      refine lv_iload_n hx hb dX3_tell_18 rfl (lv_at hl 2 rfl) ?_
      refine lv_if_ne (tgt := 33) hx hb dX3_tell_19 (by decide) (fun hc3 => ?_) (fun hc3 => ?_)
      · replace hf := ie hc3 hf
        refine lv_aload_n hx hb dX3_tell_33 rfl (lv_at hl 0 rfl) ?_
        refine va_get hx hb hts n3_ hown hK hP 0 rfl rfl 0 (Nat.le_of_ble_eq_true rfl) k1_ (fun _ h => h) rfl dX3_tell_34 ?_
        refine lv_iload_n hx hb dX3_tell_37 rfl (lv_at hl 1 rfl) ?_
        obtain ⟨q4, hq4, hf⟩ := ob hf
        refine cl_RV (As := [.int x1]) (rest := []) hF hP hD (c_X5_amountAt h1 h2 h3 N x1 A M n t q4 hq4) (cwV 1 hts gX3_tell_X5_amountAt rfl rfl rfl (by decide +kernel) ⟨(Nat.le_of_ble_eq_true rfl), (Nat.le_of_ble_eq_true rfl)⟩) [1, 2, 3] rfl (by decide +kernel) (va_recv hK hP (ci := 5) (q0 := 1) rfl rfl) rfl rfl hl.1 (Nat.le_of_ble_eq_true rfl) dX3_tell_38 ⟨Nat.zero_le _, Nat.zero_le _⟩ ?_
        obtain rfl := Option.some.inj hf
        exact ret 41 ls _ dX3_tell_41 rfl rfl
      · replace hf := it hc3 hf
        refine lv_aload_n hx hb dX3_tell_22 rfl (lv_at hl 0 rfl) ?_
        refine va_get hx hb hts n3_ hown hK hP 0 rfl rfl 0 (Nat.le_of_ble_eq_true rfl) k1_ (fun _ h => h) rfl dX3_tell_23 ?_
        refine lv_iload_n hx hb dX3_tell_26 rfl (lv_at hl 1 rfl) ?_
        obtain ⟨q5, hq5, hf⟩ := ob hf
        refine cl_RV (As := [.int x1]) (rest := []) hF hP hD (c_X5_markAt h1 h2 h3 N x1 A M n t q5 hq5) (cwV 1 hts gX3_tell_X5_markAt rfl rfl rfl (by decide +kernel) ⟨(Nat.le_of_ble_eq_true rfl), (Nat.le_of_ble_eq_true rfl)⟩) [1, 2, 3] rfl (by decide +kernel) (va_recv hK hP (ci := 5) (q0 := 1) rfl rfl) rfl rfl hl.1 (Nat.le_of_ble_eq_true rfl) dX3_tell_27 ⟨Nat.zero_le _, Nat.zero_le _⟩ ?_
        refine lv_goto (tgt := 41) hx hb dX3_tell_30 (by decide) ?_
        obtain rfl := Option.some.inj hf
        exact ret 41 ls _ dX3_tell_41 rfl rfl
    · replace hf := ie hc2 hf
      refine lv_ldc hx hb hown k2_ dX3_tell_15 ?_
      obtain rfl := Option.some.inj hf
      exact ret 17 ls _ dX3_tell_17 rfl rfl
abbrev rmX3_letOut : Room := { frames := 3, cells := 0, slots := 0, locals := 108 }
set_option maxHeartbeats 4000000 in
set_option maxRecDepth 100000 in
theorem c_X3_letOut (h0 : Nat) (h1 : Nat) (h2 : Nat) (h3 : Nat) (h4 : Nat) (h5 : Nat) (h6 : Nat) (N : Nat) (N2 : Nat) (x1 : Int32) (x2 : Int32) (x3 : Int32) (A : Nat → Int32) (M : Nat → Int32) (n : Int32) (t : Int32) (A2 : Nat → Int32) (M2 : Nat → Int32) (n2 : Int32) (t2 : Int32) (R : (Nat → Int32) × (Nat → Int32) × Int32 × Int32 × (Nat → Int32) × (Nat → Int32) × Int32 × Int32) (hf : f_X3_letOut N N2 x1 x2 x3 A M n t A2 M2 n2 t2 = some R) : WrV l yX3_letOut wsX3_letOut rmX3_letOut D cI cC (w_hoprow cI cC h0 h1 h2 h3 h4 h5 h6 N N2 A M n t A2 M2 n2 t2) (w_hoprow cI cC h0 h1 h2 h3 h4 h5 h6 N N2 R.1 R.2.1 R.2.2.1 R.2.2.2.1 R.2.2.2.2.1 R.2.2.2.2.2.1 R.2.2.2.2.2.2.1 R.2.2.2.2.2.2.2) [.ref h0, .int x1, .int x2, .int x3, .ref h4] := by
  refine en_V (cc := cX3_letOut) (n := 5) (by decide) rfl (Nat.le_of_ble_eq_true rfl) ?_
  intro p e s m args below meth c Q AA ls hx hb hml hown hts hK hN hP hD hS hl ret
  have hown : s.vm.findClass RX3 = some m.cls := hown
  have hF : FX p m c cX3_letOut 5 s args wsX3_letOut RX3 D cI cC := ⟨⟨hx, hb, hml, hown, hts⟩, hK, hN⟩
  have hl : lv_has ls 5 [(0, .ref h0), (1, .int x1), (2, .int x2), (3, .int x3), (4, .ref h4)] := hl
  have k1_ := hts (.fieldLink RX3 14 "DriftGrinders$Hopper" "lots" "LDriftGrinders$Row;") (List.mem_of_getElem? (i := 1) rfl)
  have k2_ := hts (.static yX7_markOf) (List.mem_of_getElem? (i := 2) rfl)
  have k3_ := hts (.initialized RX7) (List.mem_of_getElem? (i := 3) rfl)
  have n3_ : ∀ w ∈ wsX30, w ∈ wsX3_letOut := fun _ h => List.mem_cons_of_mem _ (List.mem_append_left _ (List.mem_append_right _ h))
  rw [f_X3_letOut] at hf
  obtain ⟨H, hH⟩ : ∃ z : Heap, z = s.heap := ⟨_, rfl⟩
  obtain ⟨locs, hL⟩ : ∃ z : List Loc, z = [] := ⟨_, rfl⟩
  replace hP := hH ▸ hP
  replace hS : va_S AA s.heap H locs := by rw [hH, hL]; exact hS
  suffices hgoal : W p l e rmX3_letOut s m args below meth c H locs 0 0 Q (F0 m 0 ls []) by rw [hH, hL] at hgoal; exact hgoal
  clear hH hL
  refine lv_aload_n hx hb dX3_letOut_0 rfl (lv_at hl 0 rfl) ?_
  refine va_get hx hb hts n3_ hown hK hP 0 rfl rfl 0 (Nat.le_of_ble_eq_true rfl) k1_ (fun _ h => h) rfl dX3_letOut_1 ?_
  refine lv_iload_n hx hb dX3_letOut_4 rfl (lv_at hl 1 rfl) ?_
  refine lv_iconst (v := (0 : Int32)) hx hb dX3_letOut_5 (by decide) ?_
  refine lv_iload_n hx hb dX3_letOut_6 rfl (lv_at hl 2 rfl) ?_
  refine lv_iload_n hx hb dX3_letOut_7 rfl (lv_at hl 3 rfl) ?_
  obtain ⟨q1, hq1, hf⟩ := ob hf
  refine cl_RN (As := [.int (0 : Int32), .int x2, .int x3]) (rest := [.int x1, .ref h1]) hF hP hD (c_X7_markOf (0 : Int32) x2 x3 q1 hq1) ⟨va_cnB 3 hts gX3_letOut_X7_markOf_n46 rfl rfl rfl (hN.nw 30 rfl) k3_ (by decide +kernel) ⟨(Nat.le_of_ble_eq_true rfl), (Nat.le_of_ble_eq_true rfl)⟩, k2_, trivial⟩ [] rfl (by decide +kernel) rfl rfl hl.1 (Nat.le_of_ble_eq_true rfl) dX3_letOut_8 ⟨Nat.zero_le _, Nat.zero_le _⟩ ?_
  refine lv_aload hx hb dX3_letOut_11 (lv_at hl 4 rfl) ?_
  obtain ⟨q2, hq2, hf⟩ := ob hf
  refine cl_VV (W1 := (w_hoprow cI cC h0 h1 h2 h3 h4 h5 h6 N N2 q2.1 q2.2.1 q2.2.2.1 q2.2.2.2.1 q2.2.2.2.2.1 q2.2.2.2.2.2.1 q2.2.2.2.2.2.2.1 q2.2.2.2.2.2.2.2)) (As := [.int x1, .int q1, .ref h4]) (rest := []) hF hP hD hS (c_X5_letOut h1 h2 h3 h4 h5 h6 N N2 x1 q1 A M n t A2 M2 n2 t2 q2 hq2) (cwV 3 hts gX3_letOut_X5_letOut rfl rfl rfl (by decide +kernel) ⟨(Nat.le_of_ble_eq_true rfl), (Nat.le_of_ble_eq_true rfl)⟩) [1, 2, 3, 4, 5, 6] rfl (by decide +kernel) (va_recv hK hP (ci := 5) (q0 := 1) rfl rfl) rfl rfl hl.1 (Nat.le_of_ble_eq_true rfl) dX3_letOut_13 ⟨Nat.zero_le _, Nat.zero_le _⟩ (hA2 [h1, h2, h3, h4, h5, h6] rfl rfl) [0] rfl [(h0, .inr (3, [.ref h1]))] rfl rfl (nW := 7) rfl (by decide +kernel) (fun H locs hP hD hS => ?_)
  obtain rfl := Option.some.inj hf
  exact ret 16 ls H locs dX3_letOut_16 hP hS
abbrev rmX3_copyFrom : Room := { frames := 2, cells := 0, slots := 0, locals := 81 }
set_option maxHeartbeats 4000000 in
set_option maxRecDepth 100000 in
theorem c_X3_copyFrom (h0 : Nat) (h1 : Nat) (h2 : Nat) (h3 : Nat) (h4 : Nat) (h5 : Nat) (h6 : Nat) (h7 : Nat) (N : Nat) (N2 : Nat) (A : Nat → Int32) (M : Nat → Int32) (n : Int32) (t : Int32) (A2 : Nat → Int32) (M2 : Nat → Int32) (n2 : Int32) (t2 : Int32) (R : (Nat → Int32) × (Nat → Int32) × Int32 × Int32) (hf : f_X3_copyFrom N N2 A M n t A2 M2 n2 t2 = some R) : WrV l yX3_copyFrom wsX3_copyFrom rmX3_copyFrom D cI cC (w_hop2 cI cC h0 h1 h2 h3 h4 h5 h6 h7 N N2 A M n t A2 M2 n2 t2) (w_hop2 cI cC h0 h1 h2 h3 h4 h5 h6 h7 N N2 R.1 R.2.1 R.2.2.1 R.2.2.2 A2 M2 n2 t2) [.ref h0, .ref h4] := by
  refine en_V (cc := cX3_copyFrom) (n := 2) (by decide) rfl (Nat.le_of_ble_eq_true rfl) ?_
  intro p e s m args below meth c Q AA ls hx hb hml hown hts hK hN hP hD hS hl ret
  have hown : s.vm.findClass RX3 = some m.cls := hown
  have hF : FX p m c cX3_copyFrom 2 s args wsX3_copyFrom RX3 D cI cC := ⟨⟨hx, hb, hml, hown, hts⟩, hK, hN⟩
  have hl : lv_has ls 2 [(0, .ref h0), (1, .ref h4)] := hl
  have k1_ := hts (.fieldLink RX3 14 "DriftGrinders$Hopper" "lots" "LDriftGrinders$Row;") (List.mem_of_getElem? (i := 1) rfl)
  have n3_ : ∀ w ∈ wsX30, w ∈ wsX3_copyFrom := fun _ h => List.mem_cons_of_mem _ (List.mem_append_left _ (List.mem_append_right _ h))
  rw [f_X3_copyFrom] at hf
  obtain ⟨H, hH⟩ : ∃ z : Heap, z = s.heap := ⟨_, rfl⟩
  obtain ⟨locs, hL⟩ : ∃ z : List Loc, z = [] := ⟨_, rfl⟩
  replace hP := hH ▸ hP
  replace hS : va_S AA s.heap H locs := by rw [hH, hL]; exact hS
  suffices hgoal : W p l e rmX3_copyFrom s m args below meth c H locs 0 0 Q (F0 m 0 ls []) by rw [hH, hL] at hgoal; exact hgoal
  clear hH hL
  refine lv_aload_n hx hb dX3_copyFrom_0 rfl (lv_at hl 0 rfl) ?_
  refine va_get hx hb hts n3_ hown hK hP 0 rfl rfl 0 (Nat.le_of_ble_eq_true rfl) k1_ (fun _ h => h) rfl dX3_copyFrom_1 ?_
  refine lv_aload_n hx hb dX3_copyFrom_4 rfl (lv_at hl 1 rfl) ?_
  refine va_get hx hb hts n3_ hown hK hP 4 rfl rfl 0 (Nat.le_of_ble_eq_true rfl) k1_ (fun _ h => h) rfl dX3_copyFrom_5 ?_
  obtain ⟨q1, hq1, hf⟩ := ob hf
  refine cl_VV (W1 := (w_hop2 cI cC h0 h1 h2 h3 h4 h5 h6 h7 N N2 q1.1 q1.2.1 q1.2.2.1 q1.2.2.2 A2 M2 n2 t2)) (As := [.ref h5]) (rest := []) hF hP hD hS (c_X5_copyFrom h1 h2 h3 h5 h6 h7 N N2 A M n t A2 M2 n2 t2 q1 hq1) (cwV 1 hts gX3_copyFrom_X5_copyFrom rfl rfl rfl (by decide +kernel) ⟨(Nat.le_of_ble_eq_true rfl), (Nat.le_of_ble_eq_true rfl)⟩) [1, 2, 3, 5, 6, 7] rfl (by decide +kernel) (va_recv hK hP (ci := 5) (q0 := 1) rfl rfl) rfl rfl hl.1 (Nat.le_of_ble_eq_true rfl) dX3_copyFrom_8 ⟨Nat.zero_le _, Nat.zero_le _⟩ (hA2 [h1, h2, h3, h5, h6, h7] rfl rfl) [0, 4] rfl [(h0, .inr (3, [.ref h1])), (h4, .inr (3, [.ref h5]))] rfl rfl (nW := 8) rfl (by decide +kernel) (fun H locs hP hD hS => ?_)
  obtain rfl := Option.some.inj hf
  exact ret 11 ls H locs dX3_copyFrom_11 hP hS
end
