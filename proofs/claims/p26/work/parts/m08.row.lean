section
variable {l : Launch} {D : va_G} {cI cC : ClassId}

def w_row (cI cC : ClassId) (h0 : Nat) (h1 : Nat) (h2 : Nat) (N : Nat) (A : Nat → Int32) (M : Nat → Int32) (n : Int32) (t : Int32) : va_W := [(h0, .inr (5, [.ref h1, .ref h2, .int n, .int t])), (h1, .inl (cI, N, .inl A)), (h2, .inl (cI, N, .inl M))]
def w_row2 (cI cC : ClassId) (h0 : Nat) (h1 : Nat) (h2 : Nat) (h3 : Nat) (h4 : Nat) (h5 : Nat) (N : Nat) (N2 : Nat) (A : Nat → Int32) (M : Nat → Int32) (n : Int32) (t : Int32) (A2 : Nat → Int32) (M2 : Nat → Int32) (n2 : Int32) (t2 : Int32) : va_W := [(h0, .inr (5, [.ref h1, .ref h2, .int n, .int t])), (h1, .inl (cI, N, .inl A)), (h2, .inl (cI, N, .inl M)), (h3, .inr (5, [.ref h4, .ref h5, .int n2, .int t2])), (h4, .inl (cI, N2, .inl A2)), (h5, .inl (cI, N2, .inl M2))]
abbrev rmX5_clear : Room := { frames := 1, cells := 0, slots := 0, locals := 0 }
set_option maxHeartbeats 4000000 in
set_option maxRecDepth 100000 in
theorem c_X5_clear (h0 : Nat) (h1 : Nat) (h2 : Nat) (N : Nat) (A : Nat → Int32) (M : Nat → Int32) (n : Int32) (t : Int32) (R : Int32 × Int32) (hf : f_X5_clear N n t = some R) : WrV l yX5_clear wsX5_clear rmX5_clear D cI cC (w_row cI cC h0 h1 h2 N A M n t) (w_row cI cC h0 h1 h2 N A M R.1 R.2) [.ref h0] := by
  refine en_V (cc := cX5_clear) (n := 1) (by decide) rfl (Nat.le_of_ble_eq_true rfl) ?_
  intro p e s m args below meth c Q AA ls hx hb hml hown hts hK hN hP hD hS hl ret
  have hown : s.vm.findClass RX5 = some m.cls := hown
  have hF : FX p m c cX5_clear 1 s args wsX5_clear RX5 D cI cC := ⟨⟨hx, hb, hml, hown, hts⟩, hK, hN⟩
  have hl : lv_has ls 1 [(0, .ref h0)] := hl
  have k1_ := hts (.fieldLink RX5 22 "DriftGrinders$Row" "length" "I") (List.mem_of_getElem? (i := 1) rfl)
  have k2_ := hts (.fieldLink RX5 29 "DriftGrinders$Row" "total" "I") (List.mem_of_getElem? (i := 2) rfl)
  have n5_ : ∀ w ∈ wsX50, w ∈ wsX5_clear := fun _ h => List.mem_cons_of_mem _ (List.mem_append_right _ h)
  rw [f_X5_clear] at hf
  obtain ⟨H, hH⟩ : ∃ z : Heap, z = s.heap := ⟨_, rfl⟩
  obtain ⟨locs, hL⟩ : ∃ z : List Loc, z = [] := ⟨_, rfl⟩
  replace hP := hH ▸ hP
  replace hS : va_S AA s.heap H locs := by rw [hH, hL]; exact hS
  suffices hgoal : W p l e rmX5_clear s m args below meth c H locs 0 0 Q (F0 m 0 ls []) by rw [hH, hL] at hgoal; exact hgoal
  clear hH hL
  refine lv_aload_n hx hb dX5_clear_0 rfl (lv_at hl 0 rfl) ?_
  refine lv_iconst (v := (0 : Int32)) hx hb dX5_clear_1 (by decide) ?_
  refine va_put hx hb hts n5_ tyX5 tyX5_ok nmX5 hown hK hP hD hS 0 rfl rfl 2 (Nat.le_of_ble_eq_true rfl) k1_ (fun _ h => h) rfl (v := .int (0 : Int32)) (tyX5_ok 2 (Nat.le_of_ble_eq_true rfl)) rfl rfl (Nat.le_of_ble_eq_true rfl) dX5_clear_2 (fun H locs hP hD hS => ?_)
  have hP : va_P D vwCl (w_row cI cC h0 h1 h2 N A M (0 : Int32) t) H := hP
  have hD : va_D AA (w_row cI cC h0 h1 h2 N A M (0 : Int32) t) := hD
  refine lv_aload_n hx hb dX5_clear_5 rfl (lv_at hl 0 rfl) ?_
  refine lv_iconst (v := (0 : Int32)) hx hb dX5_clear_6 (by decide) ?_
  refine va_put hx hb hts n5_ tyX5 tyX5_ok nmX5 hown hK hP hD hS 0 rfl rfl 3 (Nat.le_of_ble_eq_true rfl) k2_ (fun _ h => h) rfl (v := .int (0 : Int32)) (tyX5_ok 3 (Nat.le_of_ble_eq_true rfl)) rfl rfl (Nat.le_of_ble_eq_true rfl) dX5_clear_7 (fun H locs hP hD hS => ?_)
  have hP : va_P D vwCl (w_row cI cC h0 h1 h2 N A M (0 : Int32) (0 : Int32)) H := hP
  have hD : va_D AA (w_row cI cC h0 h1 h2 N A M (0 : Int32) (0 : Int32)) := hD
  obtain rfl := Option.some.inj hf
  exact ret 10 ls H locs dX5_clear_10 hP hS
abbrev rmX5_append : Room := { frames := 1, cells := 0, slots := 0, locals := 0 }
set_option maxHeartbeats 4000000 in
set_option maxRecDepth 100000 in
theorem c_X5_append (h0 : Nat) (h1 : Nat) (h2 : Nat) (N : Nat) (x1 : Int32) (x2 : Int32) (A : Nat → Int32) (M : Nat → Int32) (n : Int32) (t : Int32) (R : (Nat → Int32) × (Nat → Int32) × Int32 × Int32) (hf : f_X5_append N x1 x2 A M n t = some R) : WrV l yX5_append wsX5_append rmX5_append D cI cC (w_row cI cC h0 h1 h2 N A M n t) (w_row cI cC h0 h1 h2 N R.1 R.2.1 R.2.2.1 R.2.2.2) [.ref h0, .int x1, .int x2] := by
  refine en_V (cc := cX5_append) (n := 3) (by decide) rfl (Nat.le_of_ble_eq_true rfl) ?_
  intro p e s m args below meth c Q AA ls hx hb hml hown hts hK hN hP hD hS hl ret
  have hown : s.vm.findClass RX5 = some m.cls := hown
  have hF : FX p m c cX5_append 3 s args wsX5_append RX5 D cI cC := ⟨⟨hx, hb, hml, hown, hts⟩, hK, hN⟩
  have hl : lv_has ls 3 [(0, .ref h0), (1, .int x1), (2, .int x2)] := hl
  have k1_ := hts (.fieldLink RX5 22 "DriftGrinders$Row" "length" "I") (List.mem_of_getElem? (i := 1) rfl)
  have k2_ := hts (.fieldLink RX5 13 "DriftGrinders$Row" "amounts" "[I") (List.mem_of_getElem? (i := 2) rfl)
  have k3_ := hts (.fieldLink RX5 19 "DriftGrinders$Row" "marks" "[I") (List.mem_of_getElem? (i := 3) rfl)
  have k4_ := hts (.fieldLink RX5 29 "DriftGrinders$Row" "total" "I") (List.mem_of_getElem? (i := 4) rfl)
  have n5_ : ∀ w ∈ wsX50, w ∈ wsX5_append := fun _ h => List.mem_cons_of_mem _ (List.mem_append_right _ h)
  rw [f_X5_append] at hf
  obtain ⟨H, hH⟩ : ∃ z : Heap, z = s.heap := ⟨_, rfl⟩
  obtain ⟨locs, hL⟩ : ∃ z : List Loc, z = [] := ⟨_, rfl⟩
  replace hP := hH ▸ hP
  replace hS : va_S AA s.heap H locs := by rw [hH, hL]; exact hS
  suffices hgoal : W p l e rmX5_append s m args below meth c H locs 0 0 Q (F0 m 0 ls []) by rw [hH, hL] at hgoal; exact hgoal
  clear hH hL
  refine lv_aload_n hx hb dX5_append_0 rfl (lv_at hl 0 rfl) ?_
  refine va_get hx hb hts n5_ hown hK hP 0 rfl rfl 2 (Nat.le_of_ble_eq_true rfl) k1_ (fun _ h => h) rfl dX5_append_1 ?_
  refine lv_aload_n hx hb dX5_append_4 rfl (lv_at hl 0 rfl) ?_
  refine va_get hx hb hts n5_ hown hK hP 0 rfl rfl 0 (Nat.le_of_ble_eq_true rfl) k2_ (fun _ h => h) rfl dX5_append_5 ?_
  refine va_alen hx hb hK hP 1 0 rfl rfl (v := (nI N)) rfl dX5_append_8 ?_
  refine lv_icmp_ge (tgt := 52) hx hb dX5_append_9 (by decide) (fun hc1 => ?_) (fun hc1 => ?_)
  · replace hf := it hc1 hf
    obtain rfl := Option.some.inj hf
    exact ret 52 ls H locs dX5_append_52 hP hS
  · replace hf := ie hc1 hf
    refine lv_aload_n hx hb dX5_append_12 rfl (lv_at hl 0 rfl) ?_
    refine va_get hx hb hts n5_ hown hK hP 0 rfl rfl 0 (Nat.le_of_ble_eq_true rfl) k2_ (fun _ h => h) rfl dX5_append_13 ?_
    refine lv_aload_n hx hb dX5_append_16 rfl (lv_at hl 0 rfl) ?_
    refine va_get hx hb hts n5_ hown hK hP 0 rfl rfl 2 (Nat.le_of_ble_eq_true rfl) k1_ (fun _ h => h) rfl dX5_append_17 ?_
    refine lv_iload_n hx hb dX5_append_20 rfl (lv_at hl 1 rfl) ?_
    obtain ⟨hg2, hf⟩ := gd_s hf
    refine x_iast hx hb hK hP hD hS 1 0 rfl rfl hg2 dX5_append_21 (fun Z3 H locs eZ3 hP hD hS => ?_)
    replace hf := lt_e eZ3 hf
    have hP : va_P D vwCl (w_row cI cC h0 h1 h2 N Z3 M n t) H := hP
    have hD : va_D AA (w_row cI cC h0 h1 h2 N Z3 M n t) := hD
    refine lv_aload_n hx hb dX5_append_22 rfl (lv_at hl 0 rfl) ?_
    refine va_get hx hb hts n5_ hown hK hP 0 rfl rfl 1 (Nat.le_of_ble_eq_true rfl) k3_ (fun _ h => h) rfl dX5_append_23 ?_
    refine lv_aload_n hx hb dX5_append_26 rfl (lv_at hl 0 rfl) ?_
    refine va_get hx hb hts n5_ hown hK hP 0 rfl rfl 2 (Nat.le_of_ble_eq_true rfl) k1_ (fun _ h => h) rfl dX5_append_27 ?_
    refine lv_iload_n hx hb dX5_append_30 rfl (lv_at hl 2 rfl) ?_
    obtain ⟨hg4, hf⟩ := gd_s hf
    refine x_iast hx hb hK hP hD hS 2 0 rfl rfl hg4 dX5_append_31 (fun Z5 H locs eZ5 hP hD hS => ?_)
    replace hf := lt_e eZ5 hf
    have hP : va_P D vwCl (w_row cI cC h0 h1 h2 N Z3 Z5 n t) H := hP
    have hD : va_D AA (w_row cI cC h0 h1 h2 N Z3 Z5 n t) := hD
    refine lv_aload_n hx hb dX5_append_32 rfl (lv_at hl 0 rfl) ?_
    refine lv_dup hx hb dX5_append_33 rfl ?_
    refine va_get hx hb hts n5_ hown hK hP 0 rfl rfl 2 (Nat.le_of_ble_eq_true rfl) k1_ (fun _ h => h) rfl dX5_append_34 ?_
    refine lv_iconst (v := (1 : Int32)) hx hb dX5_append_37 (by decide) ?_
    refine lv_iadd hx hb dX5_append_38 ?_
    refine lv_topi (fun v6 ev6 => ?_)
    replace hf := lt_e ev6 hf
    refine va_put hx hb hts n5_ tyX5 tyX5_ok nmX5 hown hK hP hD hS 0 rfl rfl 2 (Nat.le_of_ble_eq_true rfl) k1_ (fun _ h => h) rfl (v := .int v6) (tyX5_ok 2 (Nat.le_of_ble_eq_true rfl)) rfl rfl (Nat.le_of_ble_eq_true rfl) dX5_append_39 (fun H locs hP hD hS => ?_)
    have hP : va_P D vwCl (w_row cI cC h0 h1 h2 N Z3 Z5 v6 t) H := hP
    have hD : va_D AA (w_row cI cC h0 h1 h2 N Z3 Z5 v6 t) := hD
    refine lv_aload_n hx hb dX5_append_42 rfl (lv_at hl 0 rfl) ?_
    refine lv_dup hx hb dX5_append_43 rfl ?_
    refine va_get hx hb hts n5_ hown hK hP 0 rfl rfl 3 (Nat.le_of_ble_eq_true rfl) k4_ (fun _ h => h) rfl dX5_append_44 ?_
    refine lv_iload_n hx hb dX5_append_47 rfl (lv_at hl 1 rfl) ?_
    refine lv_iadd hx hb dX5_append_48 ?_
    refine lv_topi (fun v7 ev7 => ?_)
    replace hf := lt_e ev7 hf
    refine va_put hx hb hts n5_ tyX5 tyX5_ok nmX5 hown hK hP hD hS 0 rfl rfl 3 (Nat.le_of_ble_eq_true rfl) k4_ (fun _ h => h) rfl (v := .int v7) (tyX5_ok 3 (Nat.le_of_ble_eq_true rfl)) rfl rfl (Nat.le_of_ble_eq_true rfl) dX5_append_49 (fun H locs hP hD hS => ?_)
    have hP : va_P D vwCl (w_row cI cC h0 h1 h2 N Z3 Z5 v6 v7) H := hP
    have hD : va_D AA (w_row cI cC h0 h1 h2 N Z3 Z5 v6 v7) := hD
    obtain rfl := Option.some.inj hf
    exact ret 52 ls H locs dX5_append_52 hP hS
abbrev rmX5_addToLast : Room := { frames := 1, cells := 0, slots := 0, locals := 0 }
set_option maxHeartbeats 4000000 in
set_option maxRecDepth 100000 in
theorem c_X5_addToLast (h0 : Nat) (h1 : Nat) (h2 : Nat) (N : Nat) (x1 : Int32) (A : Nat → Int32) (M : Nat → Int32) (n : Int32) (t : Int32) (R : (Nat → Int32) × Int32) (hf : f_X5_addToLast N x1 A n t = some R) : WrV l yX5_addToLast wsX5_addToLast rmX5_addToLast D cI cC (w_row cI cC h0 h1 h2 N A M n t) (w_row cI cC h0 h1 h2 N R.1 M n R.2) [.ref h0, .int x1] := by
  refine en_V (cc := cX5_addToLast) (n := 2) (by decide) rfl (Nat.le_of_ble_eq_true rfl) ?_
  intro p e s m args below meth c Q AA ls hx hb hml hown hts hK hN hP hD hS hl ret
  have hown : s.vm.findClass RX5 = some m.cls := hown
  have hF : FX p m c cX5_addToLast 2 s args wsX5_addToLast RX5 D cI cC := ⟨⟨hx, hb, hml, hown, hts⟩, hK, hN⟩
  have hl : lv_has ls 2 [(0, .ref h0), (1, .int x1)] := hl
  have k1_ := hts (.fieldLink RX5 22 "DriftGrinders$Row" "length" "I") (List.mem_of_getElem? (i := 1) rfl)
  have k2_ := hts (.fieldLink RX5 13 "DriftGrinders$Row" "amounts" "[I") (List.mem_of_getElem? (i := 2) rfl)
  have k3_ := hts (.fieldLink RX5 29 "DriftGrinders$Row" "total" "I") (List.mem_of_getElem? (i := 3) rfl)
  have n5_ : ∀ w ∈ wsX50, w ∈ wsX5_addToLast := fun _ h => List.mem_cons_of_mem _ (List.mem_append_right _ h)
  rw [f_X5_addToLast] at hf
  obtain ⟨H, hH⟩ : ∃ z : Heap, z = s.heap := ⟨_, rfl⟩
  obtain ⟨locs, hL⟩ : ∃ z : List Loc, z = [] := ⟨_, rfl⟩
  replace hP := hH ▸ hP
  replace hS : va_S AA s.heap H locs := by rw [hH, hL]; exact hS
  suffices hgoal : W p l e rmX5_addToLast s m args below meth c H locs 0 0 Q (F0 m 0 ls []) by rw [hH, hL] at hgoal; exact hgoal
  clear hH hL
  refine lv_aload_n hx hb dX5_addToLast_0 rfl (lv_at hl 0 rfl) ?_
  refine va_get hx hb hts n5_ hown hK hP 0 rfl rfl 2 (Nat.le_of_ble_eq_true rfl) k1_ (fun _ h => h) rfl dX5_addToLast_1 ?_
  refine lv_if_le (tgt := 32) hx hb dX5_addToLast_4 (by decide) (fun hc1 => ?_) (fun hc1 => ?_)
  · replace hf := it hc1 hf
    obtain rfl := Option.some.inj hf
    exact ret 32 ls H locs dX5_addToLast_32 hP hS
  · replace hf := ie hc1 hf
    refine lv_aload_n hx hb dX5_addToLast_7 rfl (lv_at hl 0 rfl) ?_
    refine va_get hx hb hts n5_ hown hK hP 0 rfl rfl 0 (Nat.le_of_ble_eq_true rfl) k2_ (fun _ h => h) rfl dX5_addToLast_8 ?_
    refine lv_aload_n hx hb dX5_addToLast_11 rfl (lv_at hl 0 rfl) ?_
    refine va_get hx hb hts n5_ hown hK hP 0 rfl rfl 2 (Nat.le_of_ble_eq_true rfl) k1_ (fun _ h => h) rfl dX5_addToLast_12 ?_
    refine lv_iconst (v := (1 : Int32)) hx hb dX5_addToLast_15 (by decide) ?_
    refine lv_isub hx hb dX5_addToLast_16 ?_
    refine lv_topi (fun v2 ev2 => ?_)
    replace hf := lt_e ev2 hf
    refine lv_dup2_11 hx hb dX5_addToLast_17 rfl rfl ?_
    obtain ⟨hg3, hf⟩ := gd_s hf
    refine va_iald hx hb hK hP 1 0 rfl rfl hg3 dX5_addToLast_18 ?_
    refine lv_iload_n hx hb dX5_addToLast_19 rfl (lv_at hl 1 rfl) ?_
    refine lv_iadd hx hb dX5_addToLast_20 ?_
    refine lv_topi (fun v4 ev4 => ?_)
    replace hf := lt_e ev4 hf
    obtain ⟨hg5, hf⟩ := gd_s hf
    refine x_iast hx hb hK hP hD hS 1 0 rfl rfl hg5 dX5_addToLast_21 (fun Z6 H locs eZ6 hP hD hS => ?_)
    replace hf := lt_e eZ6 hf
    have hP : va_P D vwCl (w_row cI cC h0 h1 h2 N Z6 M n t) H := hP
    have hD : va_D AA (w_row cI cC h0 h1 h2 N Z6 M n t) := hD
    refine lv_aload_n hx hb dX5_addToLast_22 rfl (lv_at hl 0 rfl) ?_
    refine lv_dup hx hb dX5_addToLast_23 rfl ?_
    refine va_get hx hb hts n5_ hown hK hP 0 rfl rfl 3 (Nat.le_of_ble_eq_true rfl) k3_ (fun _ h => h) rfl dX5_addToLast_24 ?_
    refine lv_iload_n hx hb dX5_addToLast_27 rfl (lv_at hl 1 rfl) ?_
    refine lv_iadd hx hb dX5_addToLast_28 ?_
    refine lv_topi (fun v7 ev7 => ?_)
    replace hf := lt_e ev7 hf
    refine va_put hx hb hts n5_ tyX5 tyX5_ok nmX5 hown hK hP hD hS 0 rfl rfl 3 (Nat.le_of_ble_eq_true rfl) k3_ (fun _ h => h) rfl (v := .int v7) (tyX5_ok 3 (Nat.le_of_ble_eq_true rfl)) rfl rfl (Nat.le_of_ble_eq_true rfl) dX5_addToLast_29 (fun H locs hP hD hS => ?_)
    have hP : va_P D vwCl (w_row cI cC h0 h1 h2 N Z6 M n v7) H := hP
    have hD : va_D AA (w_row cI cC h0 h1 h2 N Z6 M n v7) := hD
    obtain rfl := Option.some.inj hf
    exact ret 32 ls H locs dX5_addToLast_32 hP hS
abbrev rmX5_dropFirst : Room := { frames := 1, cells := 0, slots := 0, locals := 60 }
set_option maxHeartbeats 4000000 in
set_option maxRecDepth 100000 in
theorem c_X5_dropFirst (h0 : Nat) (h1 : Nat) (h2 : Nat) (N : Nat) (x1 : Int32) (A : Nat → Int32) (M : Nat → Int32) (n : Int32) (t : Int32) (R : (Nat → Int32) × (Nat → Int32) × Int32) (hf : f_X5_dropFirst N x1 A M n = some R) : WrV l yX5_dropFirst wsX5_dropFirst rmX5_dropFirst D cI cC (w_row cI cC h0 h1 h2 N A M n t) (w_row cI cC h0 h1 h2 N R.1 R.2.1 R.2.2 t) [.ref h0, .int x1] := by
  refine en_V (cc := cX5_dropFirst) (n := 2) (by decide) rfl (Nat.le_of_ble_eq_true rfl) ?_
  intro p e s m args below meth c Q AA ls hx hb hml hown hts hK hN hP hD hS hl ret
  have hown : s.vm.findClass RX5 = some m.cls := hown
  have hF : FX p m c cX5_dropFirst 2 s args wsX5_dropFirst RX5 D cI cC := ⟨⟨hx, hb, hml, hown, hts⟩, hK, hN⟩
  have hl : lv_has ls 2 [(0, .ref h0), (1, .int x1)] := hl
  have k1_ := hts (.fieldLink RX5 22 "DriftGrinders$Row" "length" "I") (List.mem_of_getElem? (i := 1) rfl)
  have k2_ := hts (.fieldLink RX5 13 "DriftGrinders$Row" "amounts" "[I") (List.mem_of_getElem? (i := 2) rfl)
  have k3_ := hts (.methodLink RX5 32 arraycopyName) (List.mem_of_getElem? (i := 3) rfl)
  have k4_ := hts (.native arraycopyName) (List.mem_of_getElem? (i := 4) rfl)
  have k5_ := hts (.static arraycopyName) (List.mem_of_getElem? (i := 5) rfl)
  have k6_ := hts (.initialized "java/lang/System") (List.mem_of_getElem? (i := 6) rfl)
  have k7_ := hts (.fieldLink RX5 19 "DriftGrinders$Row" "marks" "[I") (List.mem_of_getElem? (i := 7) rfl)
  have n5_ : ∀ w ∈ wsX50, w ∈ wsX5_dropFirst := fun _ h => List.mem_cons_of_mem _ (List.mem_append_right _ h)
  rw [f_X5_dropFirst] at hf
  obtain ⟨H, hH⟩ : ∃ z : Heap, z = s.heap := ⟨_, rfl⟩
  obtain ⟨locs, hL⟩ : ∃ z : List Loc, z = [] := ⟨_, rfl⟩
  replace hP := hH ▸ hP
  replace hS : va_S AA s.heap H locs := by rw [hH, hL]; exact hS
  suffices hgoal : W p l e rmX5_dropFirst s m args below meth c H locs 0 0 Q (F0 m 0 ls []) by rw [hH, hL] at hgoal; exact hgoal
  clear hH hL
  refine lv_aload_n hx hb dX5_dropFirst_0 rfl (lv_at hl 0 rfl) ?_
  refine lv_dup hx hb dX5_dropFirst_1 rfl ?_
  refine va_get hx hb hts n5_ hown hK hP 0 rfl rfl 2 (Nat.le_of_ble_eq_true rfl) k1_ (fun _ h => h) rfl dX5_dropFirst_2 ?_
  refine lv_iload_n hx hb dX5_dropFirst_5 rfl (lv_at hl 1 rfl) ?_
  refine lv_isub hx hb dX5_dropFirst_6 ?_
  refine lv_topi (fun v1 ev1 => ?_)
  replace hf := lt_e ev1 hf
  refine va_put hx hb hts n5_ tyX5 tyX5_ok nmX5 hown hK hP hD hS 0 rfl rfl 2 (Nat.le_of_ble_eq_true rfl) k1_ (fun _ h => h) rfl (v := .int v1) (tyX5_ok 2 (Nat.le_of_ble_eq_true rfl)) rfl rfl (Nat.le_of_ble_eq_true rfl) dX5_dropFirst_7 (fun H locs hP hD hS => ?_)
  have hP : va_P D vwCl (w_row cI cC h0 h1 h2 N A M v1 t) H := hP
  have hD : va_D AA (w_row cI cC h0 h1 h2 N A M v1 t) := hD
  refine lv_aload_n hx hb dX5_dropFirst_10 rfl (lv_at hl 0 rfl) ?_
  refine va_get hx hb hts n5_ hown hK hP 0 rfl rfl 0 (Nat.le_of_ble_eq_true rfl) k2_ (fun _ h => h) rfl dX5_dropFirst_11 ?_
  refine lv_iload_n hx hb dX5_dropFirst_14 rfl (lv_at hl 1 rfl) ?_
  refine lv_aload_n hx hb dX5_dropFirst_15 rfl (lv_at hl 0 rfl) ?_
  refine va_get hx hb hts n5_ hown hK hP 0 rfl rfl 0 (Nat.le_of_ble_eq_true rfl) k2_ (fun _ h => h) rfl dX5_dropFirst_16 ?_
  refine lv_iconst (v := (0 : Int32)) hx hb dX5_dropFirst_19 (by decide) ?_
  refine lv_aload_n hx hb dX5_dropFirst_20 rfl (lv_at hl 0 rfl) ?_
  refine va_get hx hb hts n5_ hown hK hP 0 rfl rfl 2 (Nat.le_of_ble_eq_true rfl) k1_ (fun _ h => h) rfl dX5_dropFirst_21 ?_
  obtain ⟨hg2, hf⟩ := gd_s hf
  refine x_copy hx hb (hml.trans hl.1.symm) hown k3_ k4_ k5_ k6_ hK hP hD hS 1 1 0 0 rfl rfl rfl rfl rfl hg2.1 hg2.2.1 hg2.2.2.1 hg2.2.2.2.1 hg2.2.2.2.2 (fun _ _ => rfl) (Nat.le_of_ble_eq_true rfl) (Nat.le_of_ble_eq_true rfl) dX5_dropFirst_24 (fun Z3 H locs eZ3 hP hD hS => ?_)
  replace hf := lt_e eZ3 hf
  have hP : va_P D vwCl (w_row cI cC h0 h1 h2 N Z3 M v1 t) H := hP
  have hD : va_D AA (w_row cI cC h0 h1 h2 N Z3 M v1 t) := hD
  refine lv_aload_n hx hb dX5_dropFirst_27 rfl (lv_at hl 0 rfl) ?_
  refine va_get hx hb hts n5_ hown hK hP 0 rfl rfl 1 (Nat.le_of_ble_eq_true rfl) k7_ (fun _ h => h) rfl dX5_dropFirst_28 ?_
  refine lv_iload_n hx hb dX5_dropFirst_31 rfl (lv_at hl 1 rfl) ?_
  refine lv_aload_n hx hb dX5_dropFirst_32 rfl (lv_at hl 0 rfl) ?_
  refine va_get hx hb hts n5_ hown hK hP 0 rfl rfl 1 (Nat.le_of_ble_eq_true rfl) k7_ (fun _ h => h) rfl dX5_dropFirst_33 ?_
  refine lv_iconst (v := (0 : Int32)) hx hb dX5_dropFirst_36 (by decide) ?_
  refine lv_aload_n hx hb dX5_dropFirst_37 rfl (lv_at hl 0 rfl) ?_
  refine va_get hx hb hts n5_ hown hK hP 0 rfl rfl 2 (Nat.le_of_ble_eq_true rfl) k1_ (fun _ h => h) rfl dX5_dropFirst_38 ?_
  obtain ⟨hg4, hf⟩ := gd_s hf
  refine x_copy hx hb (hml.trans hl.1.symm) hown k3_ k4_ k5_ k6_ hK hP hD hS 2 2 0 0 rfl rfl rfl rfl rfl hg4.1 hg4.2.1 hg4.2.2.1 hg4.2.2.2.1 hg4.2.2.2.2 (fun _ _ => rfl) (Nat.le_of_ble_eq_true rfl) (Nat.le_of_ble_eq_true rfl) dX5_dropFirst_41 (fun Z5 H locs eZ5 hP hD hS => ?_)
  replace hf := lt_e eZ5 hf
  have hP : va_P D vwCl (w_row cI cC h0 h1 h2 N Z3 Z5 v1 t) H := hP
  have hD : va_D AA (w_row cI cC h0 h1 h2 N Z3 Z5 v1 t) := hD
  obtain rfl := Option.some.inj hf
  exact ret 44 ls H locs dX5_dropFirst_44 hP hS
abbrev rmX5_amountAt : Room := { frames := 1, cells := 0, slots := 0, locals := 0 }
set_option maxHeartbeats 4000000 in
set_option maxRecDepth 100000 in
theorem c_X5_amountAt (h0 : Nat) (h1 : Nat) (h2 : Nat) (N : Nat) (x1 : Int32) (A : Nat → Int32) (M : Nat → Int32) (n : Int32) (t : Int32) (R : Int32) (hf : f_X5_amountAt N x1 A n = some R) : RdI l yX5_amountAt wsX5_amountAt rmX5_amountAt D cI cC (w_row cI cC h0 h1 h2 N A M n t) [.ref h0, .int x1] R := by
  refine en_R (cc := cX5_amountAt) (n := 2) (by decide) rfl (Nat.le_of_ble_eq_true rfl) ?_
  intro p e s m args below meth c Q AA ls hx hb hml hown hts hK hN hP hD hl ret
  have hown : s.vm.findClass RX5 = some m.cls := hown
  have hF : FX p m c cX5_amountAt 2 s args wsX5_amountAt RX5 D cI cC := ⟨⟨hx, hb, hml, hown, hts⟩, hK, hN⟩
  have hl : lv_has ls 2 [(0, .ref h0), (1, .int x1)] := hl
  have k1_ := hts (.fieldLink RX5 22 "DriftGrinders$Row" "length" "I") (List.mem_of_getElem? (i := 1) rfl)
  have k2_ := hts (.fieldLink RX5 13 "DriftGrinders$Row" "amounts" "[I") (List.mem_of_getElem? (i := 2) rfl)
  have n5_ : ∀ w ∈ wsX50, w ∈ wsX5_amountAt := fun _ h => List.mem_cons_of_mem _ (List.mem_append_right _ h)
  have J12 : ∀ ls : Array Slot, lv_has ls 2 [] → f_X5_amountAt_J12 N A n = some R → W p l e rmX5_amountAt s m args below meth c s.heap [] 0 0 Q (F0 m 12 ls []) := by
    intro  ls hl hf
    rw [f_X5_amountAt_J12] at hf
    refine lv_iconst (v := (0 : Int32)) hx hb dX5_amountAt_12 (by decide) ?_
    refine lv_goto (tgt := 22) hx hb dX5_amountAt_13 (by decide) ?_
    obtain rfl := Option.some.inj hf
    exact ret 22 ls _ dX5_amountAt_22 rfl rfl
  rw [f_X5_amountAt] at hf
  refine lv_iload_n hx hb dX5_amountAt_0 rfl (lv_at hl 1 rfl) ?_
  refine lv_if_lt (tgt := 12) hx hb dX5_amountAt_1 (by decide) (fun hc1 => ?_) (fun hc1 => ?_)
  · replace hf := it hc1 hf
    exact J12  ls (lv_sub hl [] rfl) hf
  · replace hf := ie hc1 hf
    refine lv_iload_n hx hb dX5_amountAt_4 rfl (lv_at hl 1 rfl) ?_
    refine lv_aload_n hx hb dX5_amountAt_5 rfl (lv_at hl 0 rfl) ?_
    refine va_get hx hb hts n5_ hown hK hP 0 rfl rfl 2 (Nat.le_of_ble_eq_true rfl) k1_ (fun _ h => h) rfl dX5_amountAt_6 ?_
    refine lv_icmp_lt (tgt := 16) hx hb dX5_amountAt_9 (by decide) (fun hc2 => ?_) (fun hc2 => ?_)
    · replace hf := it hc2 hf
      refine lv_aload_n hx hb dX5_amountAt_16 rfl (lv_at hl 0 rfl) ?_
      refine va_get hx hb hts n5_ hown hK hP 0 rfl rfl 0 (Nat.le_of_ble_eq_true rfl) k2_ (fun _ h => h) rfl dX5_amountAt_17 ?_
      refine lv_iload_n hx hb dX5_amountAt_20 rfl (lv_at hl 1 rfl) ?_
      obtain ⟨hg3, hf⟩ := gd_s hf
      refine va_iald hx hb hK hP 1 0 rfl rfl hg3 dX5_amountAt_21 ?_
      obtain rfl := Option.some.inj hf
      exact ret 22 ls _ dX5_amountAt_22 rfl rfl
    · replace hf := ie hc2 hf
      exact J12  ls (lv_sub hl [] rfl) hf
abbrev rmX5_markAt : Room := { frames := 1, cells := 0, slots := 0, locals := 0 }
set_option maxHeartbeats 4000000 in
set_option maxRecDepth 100000 in
theorem c_X5_markAt (h0 : Nat) (h1 : Nat) (h2 : Nat) (N : Nat) (x1 : Int32) (A : Nat → Int32) (M : Nat → Int32) (n : Int32) (t : Int32) (R : Int32) (hf : f_X5_markAt N x1 M n = some R) : RdI l yX5_markAt wsX5_markAt rmX5_markAt D cI cC (w_row cI cC h0 h1 h2 N A M n t) [.ref h0, .int x1] R := by
  refine en_R (cc := cX5_markAt) (n := 2) (by decide) rfl (Nat.le_of_ble_eq_true rfl) ?_
  intro p e s m args below meth c Q AA ls hx hb hml hown hts hK hN hP hD hl ret
  have hown : s.vm.findClass RX5 = some m.cls := hown
  have hF : FX p m c cX5_markAt 2 s args wsX5_markAt RX5 D cI cC := ⟨⟨hx, hb, hml, hown, hts⟩, hK, hN⟩
  have hl : lv_has ls 2 [(0, .ref h0), (1, .int x1)] := hl
  have k1_ := hts (.fieldLink RX5 22 "DriftGrinders$Row" "length" "I") (List.mem_of_getElem? (i := 1) rfl)
  have k2_ := hts (.fieldLink RX5 19 "DriftGrinders$Row" "marks" "[I") (List.mem_of_getElem? (i := 2) rfl)
  have n5_ : ∀ w ∈ wsX50, w ∈ wsX5_markAt := fun _ h => List.mem_cons_of_mem _ (List.mem_append_right _ h)
  have J12 : ∀ ls : Array Slot, lv_has ls 2 [] → f_X5_markAt_J12 N M n = some R → W p l e rmX5_markAt s m args below meth c s.heap [] 0 0 Q (F0 m 12 ls []) := by
    intro  ls hl hf
    rw [f_X5_markAt_J12] at hf
    refine lv_iconst (v := (0 : Int32)) hx hb dX5_markAt_12 (by decide) ?_
    refine lv_goto (tgt := 22) hx hb dX5_markAt_13 (by decide) ?_
    obtain rfl := Option.some.inj hf
    exact ret 22 ls _ dX5_markAt_22 rfl rfl
  rw [f_X5_markAt] at hf
  refine lv_iload_n hx hb dX5_markAt_0 rfl (lv_at hl 1 rfl) ?_
  refine lv_if_lt (tgt := 12) hx hb dX5_markAt_1 (by decide) (fun hc1 => ?_) (fun hc1 => ?_)
  · replace hf := it hc1 hf
    exact J12  ls (lv_sub hl [] rfl) hf
  · replace hf := ie hc1 hf
    refine lv_iload_n hx hb dX5_markAt_4 rfl (lv_at hl 1 rfl) ?_
    refine lv_aload_n hx hb dX5_markAt_5 rfl (lv_at hl 0 rfl) ?_
    refine va_get hx hb hts n5_ hown hK hP 0 rfl rfl 2 (Nat.le_of_ble_eq_true rfl) k1_ (fun _ h => h) rfl dX5_markAt_6 ?_
    refine lv_icmp_lt (tgt := 16) hx hb dX5_markAt_9 (by decide) (fun hc2 => ?_) (fun hc2 => ?_)
    · replace hf := it hc2 hf
      refine lv_aload_n hx hb dX5_markAt_16 rfl (lv_at hl 0 rfl) ?_
      refine va_get hx hb hts n5_ hown hK hP 0 rfl rfl 1 (Nat.le_of_ble_eq_true rfl) k2_ (fun _ h => h) rfl dX5_markAt_17 ?_
      refine lv_iload_n hx hb dX5_markAt_20 rfl (lv_at hl 1 rfl) ?_
      obtain ⟨hg3, hf⟩ := gd_s hf
      refine va_iald hx hb hK hP 2 0 rfl rfl hg3 dX5_markAt_21 ?_
      obtain rfl := Option.some.inj hf
      exact ret 22 ls _ dX5_markAt_22 rfl rfl
    · replace hf := ie hc2 hf
      exact J12  ls (lv_sub hl [] rfl) hf
abbrev rmX5_isMostly : Room := { frames := 1, cells := 0, slots := 0, locals := 0 }
set_option maxHeartbeats 4000000 in
set_option maxRecDepth 100000 in
theorem c_X5_isMostly (h0 : Nat) (h1 : Nat) (h2 : Nat) (N : Nat) (x1 : Int32) (A : Nat → Int32) (M : Nat → Int32) (n : Int32) (t : Int32) (R : Int32) (hf : f_X5_isMostly N x1 A M n t = some R) : RdI l yX5_isMostly wsX5_isMostly rmX5_isMostly D cI cC (w_row cI cC h0 h1 h2 N A M n t) [.ref h0, .int x1] R := by
  refine en_R (cc := cX5_isMostly) (n := 4) (by decide) rfl (Nat.le_of_ble_eq_true rfl) ?_
  intro p e s m args below meth c Q AA ls hx hb hml hown hts hK hN hP hD hl ret
  have hown : s.vm.findClass RX5 = some m.cls := hown
  have hF : FX p m c cX5_isMostly 4 s args wsX5_isMostly RX5 D cI cC := ⟨⟨hx, hb, hml, hown, hts⟩, hK, hN⟩
  have hl : lv_has ls 4 [(0, .ref h0), (1, .int x1)] := hl
  have k1_ := hts (.fieldLink RX5 22 "DriftGrinders$Row" "length" "I") (List.mem_of_getElem? (i := 1) rfl)
  have k2_ := hts (.fieldLink RX5 19 "DriftGrinders$Row" "marks" "[I") (List.mem_of_getElem? (i := 2) rfl)
  have k3_ := hts (.fieldLink RX5 13 "DriftGrinders$Row" "amounts" "[I") (List.mem_of_getElem? (i := 3) rfl)
  have k4_ := hts (.fieldLink RX5 29 "DriftGrinders$Row" "total" "I") (List.mem_of_getElem? (i := 4) rfl)
  have n5_ : ∀ w ∈ wsX50, w ∈ wsX5_isMostly := fun _ h => List.mem_cons_of_mem _ (List.mem_append_right _ h)
  have L4 : ∀ n4 : Nat, ∀ (y1_4 : Int32) (y2_4 : Int32) (y3_4 : Int32), ∀ ls : Array Slot, lv_has ls 4 [(0, .ref h0), (1, .int y1_4), (2, .int y2_4), (3, .int y3_4)] → f_X5_isMostly_L4 N A M n t y1_4 n4 y2_4 y3_4 = some R → W p l e rmX5_isMostly s m args below meth c s.heap [] 0 0 Q (F0 m 4 ls []) := by
    intro n4
    induction n4 with
    | zero => intro y1_4 y2_4 y3_4 ls hl hf; rw [f_X5_isMostly_L4] at hf; cases hf
    | succ n4 IH4 =>
      intro y1_4 y2_4 y3_4 ls hl hf
      have J34 : ∀ (y3_34 : Int32) (z0_34 : Int32) (z1_34 : Int32), ∀ ls : Array Slot, lv_has ls 4 [(0, .ref h0), (1, .int y1_4), (3, .int y3_34)] → f_X5_isMostly_J34 (f_X5_isMostly_L4 N A M n t y1_4 n4) N A M n t y1_4 y3_34 z0_34 z1_34 = some R → W p l e rmX5_isMostly s m args below meth c s.heap [] 0 0 Q (F0 m 34 ls [.int z0_34, .int z1_34]) := by
        intro y3_34 z0_34 z1_34 ls hl hf
        rw [f_X5_isMostly_J34] at hf
        refine lv_iadd hx hb dX5_isMostly_34 ?_
        refine lv_topi (fun v6 ev6 => ?_)
        replace hf := lt_e ev6 hf
        refine lv_istore_n (lv' := [(2, .int v6), (0, .ref h0), (1, .int y1_4), (3, .int y3_34)]) hx hb dX5_isMostly_35 rfl hl (by decide) rfl (fun ls hl => ?_)
        obtain ⟨v7, ev7⟩ : ∃ z : Int32, z = y3_34 + (1 : Int32) := ⟨_, rfl⟩
        replace hf := lt_e ev7 hf
        refine lv_iinc (v := v7) (lv' := [(3, .int v7), (2, .int v6), (0, .ref h0), (1, .int y1_4)]) hx hb dX5_isMostly_36 hl (k := 3) rfl (by rw [ev7]; rfl) (by decide) rfl (fun ls hl => ?_)
        refine lv_goto (tgt := 4) hx hb dX5_isMostly_39 (by decide) ?_
        exact IH4 y1_4 v6 v7 ls (lv_sub hl [2, 3, 1, 0] rfl) hf
      rw [f_X5_isMostly_L4] at hf
      refine lv_iload_n hx hb dX5_isMostly_4 rfl (lv_at hl 3 rfl) ?_
      refine lv_aload_n hx hb dX5_isMostly_5 rfl (lv_at hl 0 rfl) ?_
      refine va_get hx hb hts n5_ hown hK hP 0 rfl rfl 2 (Nat.le_of_ble_eq_true rfl) k1_ (fun _ h => h) rfl dX5_isMostly_6 ?_
      refine lv_icmp_ge (tgt := 42) hx hb dX5_isMostly_9 (by decide) (fun hc1 => ?_) (fun hc1 => ?_)
      · replace hf := it hc1 hf
        refine lv_iload_n hx hb dX5_isMostly_42 rfl (lv_at hl 2 rfl) ?_
        refine lv_aload_n hx hb dX5_isMostly_43 rfl (lv_at hl 0 rfl) ?_
        refine va_get hx hb hts n5_ hown hK hP 0 rfl rfl 3 (Nat.le_of_ble_eq_true rfl) k4_ (fun _ h => h) rfl dX5_isMostly_44 ?_
        refine lv_iload_n hx hb dX5_isMostly_47 rfl (lv_at hl 2 rfl) ?_
        refine lv_isub hx hb dX5_isMostly_48 ?_
        refine lv_icmp_le (tgt := 56) hx hb dX5_isMostly_49 (by decide) (fun hc2 => ?_) (fun hc2 => ?_)
        · replace hf := it hc2 hf
          refine lv_iconst (v := (0 : Int32)) hx hb dX5_isMostly_56 (by decide) ?_
          obtain rfl := Option.some.inj hf
          exact ret 57 ls _ dX5_isMostly_57 (by decide) rfl
        · replace hf := ie hc2 hf
          refine lv_iconst (v := (1 : Int32)) hx hb dX5_isMostly_52 (by decide) ?_
          refine lv_goto (tgt := 57) hx hb dX5_isMostly_53 (by decide) ?_
          obtain rfl := Option.some.inj hf
          exact ret 57 ls _ dX5_isMostly_57 (by decide) rfl
      · replace hf := ie hc1 hf
        refine lv_iload_n hx hb dX5_isMostly_12 rfl (lv_at hl 2 rfl) ?_
        refine lv_aload_n hx hb dX5_isMostly_13 rfl (lv_at hl 0 rfl) ?_
        refine va_get hx hb hts n5_ hown hK hP 0 rfl rfl 1 (Nat.le_of_ble_eq_true rfl) k2_ (fun _ h => h) rfl dX5_isMostly_14 ?_
        refine lv_iload_n hx hb dX5_isMostly_17 rfl (lv_at hl 3 rfl) ?_
        obtain ⟨hg3, hf⟩ := gd_s hf
        refine va_iald hx hb hK hP 2 0 rfl rfl hg3 dX5_isMostly_18 ?_
        refine lv_iload_n hx hb dX5_isMostly_19 rfl (lv_at hl 1 rfl) ?_
        refine lv_iand hx hb dX5_isMostly_20 ?_
        refine lv_if_eq (tgt := 33) hx hb dX5_isMostly_21 (by decide) (fun hc4 => ?_) (fun hc4 => ?_)
        · replace hf := it hc4 hf
          refine lv_iconst (v := (0 : Int32)) hx hb dX5_isMostly_33 (by decide) ?_
          exact J34 y3_4 (0 : Int32) y2_4 ls (lv_sub hl [0, 1, 3] rfl) hf
        · replace hf := ie hc4 hf
          refine lv_aload_n hx hb dX5_isMostly_24 rfl (lv_at hl 0 rfl) ?_
          refine va_get hx hb hts n5_ hown hK hP 0 rfl rfl 0 (Nat.le_of_ble_eq_true rfl) k3_ (fun _ h => h) rfl dX5_isMostly_25 ?_
          refine lv_iload_n hx hb dX5_isMostly_28 rfl (lv_at hl 3 rfl) ?_
          obtain ⟨hg5, hf⟩ := gd_s hf
          refine va_iald hx hb hK hP 1 0 rfl rfl hg5 dX5_isMostly_29 ?_
          refine lv_goto (tgt := 34) hx hb dX5_isMostly_30 (by decide) ?_
          exact J34 y3_4 (A y3_4.toNatClampNeg) y2_4 ls (lv_sub hl [0, 1, 3] rfl) hf
  rw [f_X5_isMostly] at hf
  refine lv_iconst (v := (0 : Int32)) hx hb dX5_isMostly_0 (by decide) ?_
  refine lv_istore_n (lv' := [(2, .int (0 : Int32)), (0, .ref h0), (1, .int x1)]) hx hb dX5_isMostly_1 rfl hl (by decide) rfl (fun ls hl => ?_)
  refine lv_iconst (v := (0 : Int32)) hx hb dX5_isMostly_2 (by decide) ?_
  refine lv_istore_n (lv' := [(3, .int (0 : Int32)), (2, .int (0 : Int32)), (0, .ref h0), (1, .int x1)]) hx hb dX5_isMostly_3 rfl hl (by decide) rfl (fun ls hl => ?_)
  exact L4 FU x1 (0 : Int32) (0 : Int32) ls (lv_sub hl [2, 3, 1, 0] rfl) hf
abbrev rmX5_copyFrom : Room := { frames := 1, cells := 0, slots := 0, locals := 60 }
set_option maxHeartbeats 4000000 in
set_option maxRecDepth 100000 in
theorem c_X5_copyFrom (h0 : Nat) (h1 : Nat) (h2 : Nat) (h3 : Nat) (h4 : Nat) (h5 : Nat) (N : Nat) (N2 : Nat) (A : Nat → Int32) (M : Nat → Int32) (n : Int32) (t : Int32) (A2 : Nat → Int32) (M2 : Nat → Int32) (n2 : Int32) (t2 : Int32) (R : (Nat → Int32) × (Nat → Int32) × Int32 × Int32) (hf : f_X5_copyFrom N N2 A M n t A2 M2 n2 t2 = some R) : WrV l yX5_copyFrom wsX5_copyFrom rmX5_copyFrom D cI cC (w_row2 cI cC h0 h1 h2 h3 h4 h5 N N2 A M n t A2 M2 n2 t2) (w_row2 cI cC h0 h1 h2 h3 h4 h5 N N2 R.1 R.2.1 R.2.2.1 R.2.2.2 A2 M2 n2 t2) [.ref h0, .ref h3] := by
  refine en_V (cc := cX5_copyFrom) (n := 2) (by decide) rfl (Nat.le_of_ble_eq_true rfl) ?_
  intro p e s m args below meth c Q AA ls hx hb hml hown hts hK hN hP hD hS hl ret
  have hown : s.vm.findClass RX5 = some m.cls := hown
  have hF : FX p m c cX5_copyFrom 2 s args wsX5_copyFrom RX5 D cI cC := ⟨⟨hx, hb, hml, hown, hts⟩, hK, hN⟩
  have hl : lv_has ls 2 [(0, .ref h0), (1, .ref h3)] := hl
  have k10_ := hts (.static arraycopyName) (List.mem_of_getElem? (i := 10) rfl)
  have k11_ := hts (.initialized "java/lang/System") (List.mem_of_getElem? (i := 11) rfl)
  have k12_ := hts (.fieldLink RX5 19 "DriftGrinders$Row" "marks" "[I") (List.mem_of_getElem? (i := 12) rfl)
  have k1_ := hts (.fieldLink RX5 22 "DriftGrinders$Row" "length" "I") (List.mem_of_getElem? (i := 1) rfl)
  have k2_ := hts (.fieldLink RX5 13 "DriftGrinders$Row" "amounts" "[I") (List.mem_of_getElem? (i := 2) rfl)
  have k3_ := hts (.methodLink RX5 26 Lib.Math.min.name) (List.mem_of_getElem? (i := 3) rfl)
  have k4_ := hts (.static Lib.Math.min.name) (List.mem_of_getElem? (i := 4) rfl)
  have k5_ := hts (.initialized "java/lang/Math") (List.mem_of_getElem? (i := 5) rfl)
  have k6_ := hts (.code Lib.Math.min.name Lib.Math.min.code 2 (some .int)) (List.mem_of_getElem? (i := 6) rfl)
  have k7_ := hts (.fieldLink RX5 29 "DriftGrinders$Row" "total" "I") (List.mem_of_getElem? (i := 7) rfl)
  have k8_ := hts (.methodLink RX5 32 arraycopyName) (List.mem_of_getElem? (i := 8) rfl)
  have k9_ := hts (.native arraycopyName) (List.mem_of_getElem? (i := 9) rfl)
  have n5_ : ∀ w ∈ wsX50, w ∈ wsX5_copyFrom := fun _ h => List.mem_cons_of_mem _ (List.mem_append_right _ h)
  rw [f_X5_copyFrom] at hf
  obtain ⟨H, hH⟩ : ∃ z : Heap, z = s.heap := ⟨_, rfl⟩
  obtain ⟨locs, hL⟩ : ∃ z : List Loc, z = [] := ⟨_, rfl⟩
  replace hP := hH ▸ hP
  replace hS : va_S AA s.heap H locs := by rw [hH, hL]; exact hS
  suffices hgoal : W p l e rmX5_copyFrom s m args below meth c H locs 0 0 Q (F0 m 0 ls []) by rw [hH, hL] at hgoal; exact hgoal
  clear hH hL
  refine lv_aload_n hx hb dX5_copyFrom_0 rfl (lv_at hl 0 rfl) ?_
  refine lv_aload_n hx hb dX5_copyFrom_1 rfl (lv_at hl 1 rfl) ?_
  refine va_get hx hb hts n5_ hown hK hP 3 rfl rfl 2 (Nat.le_of_ble_eq_true rfl) k1_ (fun _ h => h) rfl dX5_copyFrom_2 ?_
  refine lv_aload_n hx hb dX5_copyFrom_5 rfl (lv_at hl 0 rfl) ?_
  refine va_get hx hb hts n5_ hown hK hP 0 rfl rfl 0 (Nat.le_of_ble_eq_true rfl) k2_ (fun _ h => h) rfl dX5_copyFrom_6 ?_
  refine va_alen hx hb hK hP 1 0 rfl rfl (v := (nI N)) rfl dX5_copyFrom_9 ?_
  refine va_mmin hx hb (hml.trans hl.1.symm) hown k3_ k4_ k5_ k6_ (Nat.le_of_ble_eq_true rfl) (Nat.le_of_ble_eq_true rfl) (Nat.zero_le _) (Nat.zero_le _) dX5_copyFrom_10 ?_
  refine lv_topi (fun v1 ev1 => ?_)
  replace hf := lt_e ev1 hf
  refine va_put hx hb hts n5_ tyX5 tyX5_ok nmX5 hown hK hP hD hS 0 rfl rfl 2 (Nat.le_of_ble_eq_true rfl) k1_ (fun _ h => h) rfl (v := .int v1) (tyX5_ok 2 (Nat.le_of_ble_eq_true rfl)) rfl rfl (Nat.le_of_ble_eq_true rfl) dX5_copyFrom_13 (fun H locs hP hD hS => ?_)
  have hP : va_P D vwCl (w_row2 cI cC h0 h1 h2 h3 h4 h5 N N2 A M v1 t A2 M2 n2 t2) H := hP
  have hD : va_D AA (w_row2 cI cC h0 h1 h2 h3 h4 h5 N N2 A M v1 t A2 M2 n2 t2) := hD
  refine lv_aload_n hx hb dX5_copyFrom_16 rfl (lv_at hl 0 rfl) ?_
  refine lv_aload_n hx hb dX5_copyFrom_17 rfl (lv_at hl 1 rfl) ?_
  refine va_get hx hb hts n5_ hown hK hP 3 rfl rfl 3 (Nat.le_of_ble_eq_true rfl) k7_ (fun _ h => h) rfl dX5_copyFrom_18 ?_
  refine va_put hx hb hts n5_ tyX5 tyX5_ok nmX5 hown hK hP hD hS 0 rfl rfl 3 (Nat.le_of_ble_eq_true rfl) k7_ (fun _ h => h) rfl (v := .int t2) (tyX5_ok 3 (Nat.le_of_ble_eq_true rfl)) rfl rfl (Nat.le_of_ble_eq_true rfl) dX5_copyFrom_21 (fun H locs hP hD hS => ?_)
  have hP : va_P D vwCl (w_row2 cI cC h0 h1 h2 h3 h4 h5 N N2 A M v1 t2 A2 M2 n2 t2) H := hP
  have hD : va_D AA (w_row2 cI cC h0 h1 h2 h3 h4 h5 N N2 A M v1 t2 A2 M2 n2 t2) := hD
  refine lv_aload_n hx hb dX5_copyFrom_24 rfl (lv_at hl 1 rfl) ?_
  refine va_get hx hb hts n5_ hown hK hP 3 rfl rfl 0 (Nat.le_of_ble_eq_true rfl) k2_ (fun _ h => h) rfl dX5_copyFrom_25 ?_
  refine lv_iconst (v := (0 : Int32)) hx hb dX5_copyFrom_28 (by decide) ?_
  refine lv_aload_n hx hb dX5_copyFrom_29 rfl (lv_at hl 0 rfl) ?_
  refine va_get hx hb hts n5_ hown hK hP 0 rfl rfl 0 (Nat.le_of_ble_eq_true rfl) k2_ (fun _ h => h) rfl dX5_copyFrom_30 ?_
  refine lv_iconst (v := (0 : Int32)) hx hb dX5_copyFrom_33 (by decide) ?_
  refine lv_aload_n hx hb dX5_copyFrom_34 rfl (lv_at hl 0 rfl) ?_
  refine va_get hx hb hts n5_ hown hK hP 0 rfl rfl 2 (Nat.le_of_ble_eq_true rfl) k1_ (fun _ h => h) rfl dX5_copyFrom_35 ?_
  obtain ⟨hg2, hf⟩ := gd_s hf
  refine x_copy hx hb (hml.trans hl.1.symm) hown k8_ k9_ k10_ k11_ hK hP hD hS 4 1 0 0 rfl rfl rfl rfl rfl hg2.1 hg2.2.1 hg2.2.2.1 hg2.2.2.2.1 hg2.2.2.2.2 (fun _ _ => rfl) (Nat.le_of_ble_eq_true rfl) (Nat.le_of_ble_eq_true rfl) dX5_copyFrom_38 (fun Z3 H locs eZ3 hP hD hS => ?_)
  replace hf := lt_e eZ3 hf
  have hP : va_P D vwCl (w_row2 cI cC h0 h1 h2 h3 h4 h5 N N2 Z3 M v1 t2 A2 M2 n2 t2) H := hP
  have hD : va_D AA (w_row2 cI cC h0 h1 h2 h3 h4 h5 N N2 Z3 M v1 t2 A2 M2 n2 t2) := hD
  refine lv_aload_n hx hb dX5_copyFrom_41 rfl (lv_at hl 1 rfl) ?_
  refine va_get hx hb hts n5_ hown hK hP 3 rfl rfl 1 (Nat.le_of_ble_eq_true rfl) k12_ (fun _ h => h) rfl dX5_copyFrom_42 ?_
  refine lv_iconst (v := (0 : Int32)) hx hb dX5_copyFrom_45 (by decide) ?_
  refine lv_aload_n hx hb dX5_copyFrom_46 rfl (lv_at hl 0 rfl) ?_
  refine va_get hx hb hts n5_ hown hK hP 0 rfl rfl 1 (Nat.le_of_ble_eq_true rfl) k12_ (fun _ h => h) rfl dX5_copyFrom_47 ?_
  refine lv_iconst (v := (0 : Int32)) hx hb dX5_copyFrom_50 (by decide) ?_
  refine lv_aload_n hx hb dX5_copyFrom_51 rfl (lv_at hl 0 rfl) ?_
  refine va_get hx hb hts n5_ hown hK hP 0 rfl rfl 2 (Nat.le_of_ble_eq_true rfl) k1_ (fun _ h => h) rfl dX5_copyFrom_52 ?_
  obtain ⟨hg4, hf⟩ := gd_s hf
  refine x_copy hx hb (hml.trans hl.1.symm) hown k8_ k9_ k10_ k11_ hK hP hD hS 5 2 0 0 rfl rfl rfl rfl rfl hg4.1 hg4.2.1 hg4.2.2.1 hg4.2.2.2.1 hg4.2.2.2.2 (fun _ _ => rfl) (Nat.le_of_ble_eq_true rfl) (Nat.le_of_ble_eq_true rfl) dX5_copyFrom_55 (fun Z5 H locs eZ5 hP hD hS => ?_)
  replace hf := lt_e eZ5 hf
  have hP : va_P D vwCl (w_row2 cI cC h0 h1 h2 h3 h4 h5 N N2 Z3 Z5 v1 t2 A2 M2 n2 t2) H := hP
  have hD : va_D AA (w_row2 cI cC h0 h1 h2 h3 h4 h5 N N2 Z3 Z5 v1 t2 A2 M2 n2 t2) := hD
  obtain rfl := Option.some.inj hf
  exact ret 58 ls H locs dX5_copyFrom_58 hP hS
abbrev rmX5_letOut : Room := { frames := 2, cells := 0, slots := 0, locals := 81 }
set_option maxHeartbeats 4000000 in
set_option maxRecDepth 100000 in
theorem c_X5_letOut (h0 : Nat) (h1 : Nat) (h2 : Nat) (h3 : Nat) (h4 : Nat) (h5 : Nat) (N : Nat) (N2 : Nat) (x1 : Int32) (x2 : Int32) (A : Nat → Int32) (M : Nat → Int32) (n : Int32) (t : Int32) (A2 : Nat → Int32) (M2 : Nat → Int32) (n2 : Int32) (t2 : Int32) (R : (Nat → Int32) × (Nat → Int32) × Int32 × Int32 × (Nat → Int32) × (Nat → Int32) × Int32 × Int32) (hf : f_X5_letOut N N2 x1 x2 A M n t A2 M2 n2 t2 = some R) : WrV l yX5_letOut wsX5_letOut rmX5_letOut D cI cC (w_row2 cI cC h0 h1 h2 h3 h4 h5 N N2 A M n t A2 M2 n2 t2) (w_row2 cI cC h0 h1 h2 h3 h4 h5 N N2 R.1 R.2.1 R.2.2.1 R.2.2.2.1 R.2.2.2.2.1 R.2.2.2.2.2.1 R.2.2.2.2.2.2.1 R.2.2.2.2.2.2.2) [.ref h0, .int x1, .int x2, .ref h3] := by
  refine en_V (cc := cX5_letOut) (n := 8) (by decide) rfl (Nat.le_of_ble_eq_true rfl) ?_
  intro p e s m args below meth c Q AA ls hx hb hml hown hts hK hN hP hD hS hl ret
  have hown : s.vm.findClass RX5 = some m.cls := hown
  have hF : FX p m c cX5_letOut 8 s args wsX5_letOut RX5 D cI cC := ⟨⟨hx, hb, hml, hown, hts⟩, hK, hN⟩
  have hl : lv_has ls 8 [(0, .ref h0), (1, .int x1), (2, .int x2), (3, .ref h3)] := hl
  have k1_ := hts (.fieldLink RX5 22 "DriftGrinders$Row" "length" "I") (List.mem_of_getElem? (i := 1) rfl)
  have k2_ := hts (.fieldLink RX5 13 "DriftGrinders$Row" "amounts" "[I") (List.mem_of_getElem? (i := 2) rfl)
  have k3_ := hts (.methodLink RX5 26 Lib.Math.min.name) (List.mem_of_getElem? (i := 3) rfl)
  have k4_ := hts (.static Lib.Math.min.name) (List.mem_of_getElem? (i := 4) rfl)
  have k5_ := hts (.initialized "java/lang/Math") (List.mem_of_getElem? (i := 5) rfl)
  have k6_ := hts (.code Lib.Math.min.name Lib.Math.min.code 2 (some .int)) (List.mem_of_getElem? (i := 6) rfl)
  have k7_ := hts (.fieldLink RX5 19 "DriftGrinders$Row" "marks" "[I") (List.mem_of_getElem? (i := 7) rfl)
  have k8_ := hts (.fieldLink RX5 29 "DriftGrinders$Row" "total" "I") (List.mem_of_getElem? (i := 8) rfl)
  have n5_ : ∀ w ∈ wsX50, w ∈ wsX5_letOut := fun _ h => List.mem_cons_of_mem _ (List.mem_append_right _ h)
  have J90 : ∀ (y1_90 : Int32) (y4_90 : Int32) (y5_90 : Int32) (A_90 : Nat → Int32) (M_90 : Nat → Int32) (n_90 : Int32) (t_90 : Int32) (A2_90 : Nat → Int32) (M2_90 : Nat → Int32) (n2_90 : Int32) (t2_90 : Int32) (H : Heap) (locs : List Loc), va_P D vwCl (w_row2 cI cC h0 h1 h2 h3 h4 h5 N N2 A_90 M_90 n_90 t_90 A2_90 M2_90 n2_90 t2_90) H → va_D AA (w_row2 cI cC h0 h1 h2 h3 h4 h5 N N2 A_90 M_90 n_90 t_90 A2_90 M2_90 n2_90 t2_90) → va_S AA s.heap H locs → ∀ ls : Array Slot, lv_has ls 8 [(0, .ref h0), (1, .int y1_90), (4, .int y4_90), (5, .int y5_90)] → f_X5_letOut_J90 N N2 y1_90 y4_90 y5_90 A_90 M_90 n_90 t_90 A2_90 M2_90 n2_90 t2_90 = some R → W p l e rmX5_letOut s m args below meth c H locs 0 0 Q (F0 m 90 ls []) := by
    intro y1_90 y4_90 y5_90 A_90 M_90 n_90 t_90 A2_90 M2_90 n2_90 t2_90 H locs hP hD hS ls hl hf
    rw [f_X5_letOut_J90] at hf
    refine lv_aload_n hx hb dX5_letOut_90 rfl (lv_at hl 0 rfl) ?_
    refine lv_dup hx hb dX5_letOut_91 rfl ?_
    refine va_get hx hb hts n5_ hown hK hP 0 rfl rfl 3 (Nat.le_of_ble_eq_true rfl) k8_ (fun _ h => h) rfl dX5_letOut_92 ?_
    refine lv_iload_n hx hb dX5_letOut_95 rfl (lv_at hl 1 rfl) ?_
    refine lv_iload hx hb dX5_letOut_96 (lv_at hl 2 rfl) ?_
    refine lv_isub hx hb dX5_letOut_98 ?_
    refine lv_isub hx hb dX5_letOut_99 ?_
    refine lv_topi (fun v15 ev15 => ?_)
    replace hf := lt_e ev15 hf
    refine va_put hx hb hts n5_ tyX5 tyX5_ok nmX5 hown hK hP hD hS 0 rfl rfl 3 (Nat.le_of_ble_eq_true rfl) k8_ (fun _ h => h) rfl (v := .int v15) (tyX5_ok 3 (Nat.le_of_ble_eq_true rfl)) rfl rfl (Nat.le_of_ble_eq_true rfl) dX5_letOut_100 (fun H locs hP hD hS => ?_)
    have hP : va_P D vwCl (w_row2 cI cC h0 h1 h2 h3 h4 h5 N N2 A_90 M_90 n_90 v15 A2_90 M2_90 n2_90 t2_90) H := hP
    have hD : va_D AA (w_row2 cI cC h0 h1 h2 h3 h4 h5 N N2 A_90 M_90 n_90 v15 A2_90 M2_90 n2_90 t2_90) := hD
    refine lv_aload_n hx hb dX5_letOut_103 rfl (lv_at hl 0 rfl) ?_
    refine lv_iload hx hb dX5_letOut_104 (lv_at hl 3 rfl) ?_
    obtain ⟨q16, hq16, hf⟩ := ob hf
    refine cl_VV (W1 := (w_row2 cI cC h0 h1 h2 h3 h4 h5 N N2 q16.1 q16.2.1 q16.2.2 v15 A2_90 M2_90 n2_90 t2_90)) (As := [.int y5_90]) (rest := []) hF hP hD hS (c_X5_dropFirst h0 h1 h2 N y5_90 A_90 M_90 n_90 v15 q16 hq16) (cwV 1 hts gX5_letOut_X5_dropFirst rfl rfl rfl (by decide +kernel) ⟨(Nat.le_of_ble_eq_true rfl), (Nat.le_of_ble_eq_true rfl)⟩) [0, 1, 2] rfl (by decide +kernel) (va_recv hK hP (ci := 5) (q0 := 0) rfl rfl) rfl rfl hl.1 (Nat.le_of_ble_eq_true rfl) dX5_letOut_106 ⟨Nat.zero_le _, Nat.zero_le _⟩ (hA2 [h0, h1, h2] rfl rfl) [3, 4, 5] rfl [(h3, .inr (5, [.ref h4, .ref h5, .int n2_90, .int t2_90])), (h4, .inl (cI, N2, .inl A2_90)), (h5, .inl (cI, N2, .inl M2_90))] rfl rfl (nW := 6) rfl (by decide +kernel) (fun H locs hP hD hS => ?_)
    obtain rfl := Option.some.inj hf
    exact ret 109 ls H locs dX5_letOut_109 hP hS
  have L9 : ∀ n9 : Nat, ∀ (y1_9 : Int32) (y2_9 : Int32) (y4_9 : Int32) (y5_9 : Int32) (y6_9 : Int32) (A_9 : Nat → Int32) (M_9 : Nat → Int32) (n_9 : Int32) (t_9 : Int32) (A2_9 : Nat → Int32) (M2_9 : Nat → Int32) (n2_9 : Int32) (t2_9 : Int32) (H : Heap) (locs : List Loc), va_P D vwCl (w_row2 cI cC h0 h1 h2 h3 h4 h5 N N2 A_9 M_9 n_9 t_9 A2_9 M2_9 n2_9 t2_9) H → va_D AA (w_row2 cI cC h0 h1 h2 h3 h4 h5 N N2 A_9 M_9 n_9 t_9 A2_9 M2_9 n2_9 t2_9) → va_S AA s.heap H locs → ∀ ls : Array Slot, lv_has ls 8 [(0, .ref h0), (1, .int y1_9), (2, .int y2_9), (3, .ref h3), (4, .int y4_9), (5, .int y5_9), (6, .int y6_9)] → f_X5_letOut_L9 N N2 y1_9 y2_9 n9 y4_9 y5_9 y6_9 A_9 M_9 n_9 t_9 A2_9 M2_9 n2_9 t2_9 = some R → W p l e rmX5_letOut s m args below meth c H locs 0 0 Q (F0 m 9 ls []) := by
    intro n9
    induction n9 with
    | zero => intro y1_9 y2_9 y4_9 y5_9 y6_9 A_9 M_9 n_9 t_9 A2_9 M2_9 n2_9 t2_9 H locs hP hD hS ls hl hf; rw [f_X5_letOut_L9] at hf; cases hf
    | succ n9 IH9 =>
      intro y1_9 y2_9 y4_9 y5_9 y6_9 A_9 M_9 n_9 t_9 A2_9 M2_9 n2_9 t2_9 H locs hP hD hS ls hl hf
      have J84 : ∀ (y4_84 : Int32) (y5_84 : Int32) (y6_84 : Int32) (A_84 : Nat → Int32) (M_84 : Nat → Int32) (n_84 : Int32) (t_84 : Int32) (A2_84 : Nat → Int32) (M2_84 : Nat → Int32) (n2_84 : Int32) (t2_84 : Int32) (H : Heap) (locs : List Loc), va_P D vwCl (w_row2 cI cC h0 h1 h2 h3 h4 h5 N N2 A_84 M_84 n_84 t_84 A2_84 M2_84 n2_84 t2_84) H → va_D AA (w_row2 cI cC h0 h1 h2 h3 h4 h5 N N2 A_84 M_84 n_84 t_84 A2_84 M2_84 n2_84 t2_84) → va_S AA s.heap H locs → ∀ ls : Array Slot, lv_has ls 8 [(0, .ref h0), (1, .int y1_9), (2, .int y2_9), (3, .ref h3), (4, .int y4_84), (5, .int y5_84), (6, .int y6_84)] → f_X5_letOut_J84 (f_X5_letOut_L9 N N2 y1_9 y2_9 n9) N N2 y1_9 y2_9 y4_84 y5_84 y6_84 A_84 M_84 n_84 t_84 A2_84 M2_84 n2_84 t2_84 = some R → W p l e rmX5_letOut s m args below meth c H locs 0 0 Q (F0 m 84 ls []) := by
        intro y4_84 y5_84 y6_84 A_84 M_84 n_84 t_84 A2_84 M2_84 n2_84 t2_84 H locs hP hD hS ls hl hf
        rw [f_X5_letOut_J84] at hf
        obtain ⟨v17, ev17⟩ : ∃ z : Int32, z = y6_84 + (1 : Int32) := ⟨_, rfl⟩
        replace hf := lt_e ev17 hf
        refine lv_iinc (v := v17) (lv' := [(6, .int v17), (0, .ref h0), (1, .int y1_9), (2, .int y2_9), (3, .ref h3), (4, .int y4_84), (5, .int y5_84)]) hx hb dX5_letOut_84 hl (k := 6) rfl (by rw [ev17]; rfl) (by decide) rfl (fun ls hl => ?_)
        refine lv_goto (tgt := 9) hx hb dX5_letOut_87 (by decide) ?_
        exact IH9 y1_9 y2_9 y4_84 y5_84 v17 A_84 M_84 n_84 t_84 A2_84 M2_84 n2_84 t2_84 H locs hP hD hS ls (lv_sub hl [1, 2, 3, 4, 5, 6, 0] rfl) hf
      rw [f_X5_letOut_L9] at hf
      refine lv_iload hx hb dX5_letOut_9 (lv_at hl 6 rfl) ?_
      refine lv_aload_n hx hb dX5_letOut_11 rfl (lv_at hl 0 rfl) ?_
      refine va_get hx hb hts n5_ hown hK hP 0 rfl rfl 2 (Nat.le_of_ble_eq_true rfl) k1_ (fun _ h => h) rfl dX5_letOut_12 ?_
      refine lv_icmp_ge (tgt := 90) hx hb dX5_letOut_15 (by decide) (fun hc1 => ?_) (fun hc1 => ?_)
      · replace hf := it hc1 hf
        exact J90 y1_9 y4_9 y5_9 A_9 M_9 n_9 t_9 A2_9 M2_9 n2_9 t2_9 H locs hP hD hS ls (lv_sub hl [0, 1, 4, 5] rfl) hf
      · replace hf := ie hc1 hf
        refine lv_iload hx hb dX5_letOut_18 (lv_at hl 4 rfl) ?_
        refine lv_if_le (tgt := 90) hx hb dX5_letOut_20 (by decide) (fun hc2 => ?_) (fun hc2 => ?_)
        · replace hf := it hc2 hf
          exact J90 y1_9 y4_9 y5_9 A_9 M_9 n_9 t_9 A2_9 M2_9 n2_9 t2_9 H locs hP hD hS ls (lv_sub hl [0, 1, 4, 5] rfl) hf
        · replace hf := ie hc2 hf
          refine lv_iload hx hb dX5_letOut_23 (lv_at hl 4 rfl) ?_
          refine lv_aload_n hx hb dX5_letOut_25 rfl (lv_at hl 0 rfl) ?_
          refine va_get hx hb hts n5_ hown hK hP 0 rfl rfl 0 (Nat.le_of_ble_eq_true rfl) k2_ (fun _ h => h) rfl dX5_letOut_26 ?_
          refine lv_iload hx hb dX5_letOut_29 (lv_at hl 6 rfl) ?_
          obtain ⟨hg3, hf⟩ := gd_s hf
          refine va_iald hx hb hK hP 1 0 rfl rfl hg3 dX5_letOut_31 ?_
          refine va_mmin hx hb (hml.trans hl.1.symm) hown k3_ k4_ k5_ k6_ (Nat.le_of_ble_eq_true rfl) (Nat.le_of_ble_eq_true rfl) (Nat.zero_le _) (Nat.zero_le _) dX5_letOut_32 ?_
          refine lv_topi (fun v4 ev4 => ?_)
          replace hf := lt_e ev4 hf
          refine lv_istore (lv' := [(7, .int v4), (0, .ref h0), (1, .int y1_9), (2, .int y2_9), (3, .ref h3), (4, .int y4_9), (5, .int y5_9), (6, .int y6_9)]) hx hb dX5_letOut_35 hl (by decide) rfl (fun ls hl => ?_)
          refine lv_aload_n hx hb dX5_letOut_37 rfl (lv_at hl 4 rfl) ?_
          refine lv_iload hx hb dX5_letOut_38 (lv_at hl 0 rfl) ?_
          refine lv_aload_n hx hb dX5_letOut_40 rfl (lv_at hl 1 rfl) ?_
          refine va_get hx hb hts n5_ hown hK hP 0 rfl rfl 1 (Nat.le_of_ble_eq_true rfl) k7_ (fun _ h => h) rfl dX5_letOut_41 ?_
          refine lv_iload hx hb dX5_letOut_44 (lv_at hl 7 rfl) ?_
          obtain ⟨hg5, hf⟩ := gd_s hf
          refine va_iald hx hb hK hP 2 0 rfl rfl hg5 dX5_letOut_46 ?_
          refine lv_iload_n hx hb dX5_letOut_47 rfl (lv_at hl 3 rfl) ?_
          refine lv_ior hx hb dX5_letOut_48 ?_
          obtain ⟨q6, hq6, hf⟩ := ob hf
          refine cl_VV (W1 := (w_row2 cI cC h0 h1 h2 h3 h4 h5 N N2 A_9 M_9 n_9 t_9 q6.1 q6.2.1 q6.2.2.1 q6.2.2.2)) (As := [.int v4, .int ((M_9 y6_9.toNatClampNeg) ||| y2_9)]) (rest := []) hF hP hD hS (c_X5_append h3 h4 h5 N2 v4 ((M_9 y6_9.toNatClampNeg) ||| y2_9) A2_9 M2_9 n2_9 t2_9 q6 hq6) (cwV 2 hts gX5_letOut_X5_append rfl rfl rfl (by decide +kernel) ⟨(Nat.le_of_ble_eq_true rfl), (Nat.le_of_ble_eq_true rfl)⟩) [3, 4, 5] rfl (by decide +kernel) (va_recv hK hP (ci := 5) (q0 := 3) rfl rfl) rfl rfl hl.1 (Nat.le_of_ble_eq_true rfl) dX5_letOut_49 ⟨Nat.zero_le _, Nat.zero_le _⟩ (hA2 [h3, h4, h5] rfl rfl) [0, 1, 2] rfl [(h0, .inr (5, [.ref h1, .ref h2, .int n_9, .int t_9])), (h1, .inl (cI, N, .inl A_9)), (h2, .inl (cI, N, .inl M_9))] rfl rfl (nW := 6) rfl (by decide +kernel) (fun H locs hP hD hS => ?_)
          refine lv_aload_n hx hb dX5_letOut_52 rfl (lv_at hl 1 rfl) ?_
          refine va_get hx hb hts n5_ hown hK hP 0 rfl rfl 0 (Nat.le_of_ble_eq_true rfl) k2_ (fun _ h => h) rfl dX5_letOut_53 ?_
          refine lv_iload hx hb dX5_letOut_56 (lv_at hl 7 rfl) ?_
          refine lv_dup2_11 hx hb dX5_letOut_58 rfl rfl ?_
          obtain ⟨hg7, hf⟩ := gd_s hf
          refine va_iald hx hb hK hP 1 0 rfl rfl hg7 dX5_letOut_59 ?_
          refine lv_iload hx hb dX5_letOut_60 (lv_at hl 0 rfl) ?_
          refine lv_isub hx hb dX5_letOut_62 ?_
          refine lv_topi (fun v8 ev8 => ?_)
          replace hf := lt_e ev8 hf
          obtain ⟨hg9, hf⟩ := gd_s hf
          refine x_iast hx hb hK hP hD hS 1 0 rfl rfl hg9 dX5_letOut_63 (fun Z10 H locs eZ10 hP hD hS => ?_)
          replace hf := lt_e eZ10 hf
          have hP : va_P D vwCl (w_row2 cI cC h0 h1 h2 h3 h4 h5 N N2 Z10 M_9 n_9 t_9 q6.1 q6.2.1 q6.2.2.1 q6.2.2.2) H := hP
          have hD : va_D AA (w_row2 cI cC h0 h1 h2 h3 h4 h5 N N2 Z10 M_9 n_9 t_9 q6.1 q6.2.1 q6.2.2.1 q6.2.2.2) := hD
          refine lv_iload hx hb dX5_letOut_64 (lv_at hl 5 rfl) ?_
          refine lv_iload hx hb dX5_letOut_66 (lv_at hl 0 rfl) ?_
          refine lv_isub hx hb dX5_letOut_68 ?_
          refine lv_topi (fun v11 ev11 => ?_)
          replace hf := lt_e ev11 hf
          refine lv_istore (lv' := [(4, .int v11), (7, .int v4), (0, .ref h0), (1, .int y1_9), (2, .int y2_9), (3, .ref h3), (5, .int y5_9), (6, .int y6_9)]) hx hb dX5_letOut_69 hl (by decide) rfl (fun ls hl => ?_)
          refine lv_aload_n hx hb dX5_letOut_71 rfl (lv_at hl 2 rfl) ?_
          refine va_get hx hb hts n5_ hown hK hP 0 rfl rfl 0 (Nat.le_of_ble_eq_true rfl) k2_ (fun _ h => h) rfl dX5_letOut_72 ?_
          refine lv_iload hx hb dX5_letOut_75 (lv_at hl 7 rfl) ?_
          obtain ⟨hg12, hf⟩ := gd_s hf
          refine va_iald hx hb hK hP 1 0 rfl rfl hg12 dX5_letOut_77 ?_
          refine lv_if_ne (tgt := 84) hx hb dX5_letOut_78 (by decide) (fun hc13 => ?_) (fun hc13 => ?_)
          · replace hf := ie hc13 hf
            exact J84 v11 y5_9 y6_9 Z10 M_9 n_9 t_9 q6.1 q6.2.1 q6.2.2.1 q6.2.2.2 H locs hP hD hS ls (lv_sub hl [2, 3, 4, 5, 0, 6, 7] rfl) hf
          · replace hf := it hc13 hf
            obtain ⟨v14, ev14⟩ : ∃ z : Int32, z = y5_9 + (1 : Int32) := ⟨_, rfl⟩
            replace hf := lt_e ev14 hf
            refine lv_iinc (v := v14) (lv' := [(5, .int v14), (4, .int v11), (7, .int v4), (0, .ref h0), (1, .int y1_9), (2, .int y2_9), (3, .ref h3), (6, .int y6_9)]) hx hb dX5_letOut_81 hl (k := 6) rfl (by rw [ev14]; rfl) (by decide) rfl (fun ls hl => ?_)
            exact J84 v11 v14 y6_9 Z10 M_9 n_9 t_9 q6.1 q6.2.1 q6.2.2.1 q6.2.2.2 H locs hP hD hS ls (lv_sub hl [3, 4, 5, 6, 1, 0, 7] rfl) hf
  rw [f_X5_letOut] at hf
  obtain ⟨H, hH⟩ : ∃ z : Heap, z = s.heap := ⟨_, rfl⟩
  obtain ⟨locs, hL⟩ : ∃ z : List Loc, z = [] := ⟨_, rfl⟩
  replace hP := hH ▸ hP
  replace hS : va_S AA s.heap H locs := by rw [hH, hL]; exact hS
  suffices hgoal : W p l e rmX5_letOut s m args below meth c H locs 0 0 Q (F0 m 0 ls []) by rw [hH, hL] at hgoal; exact hgoal
  clear hH hL
  refine lv_iload_n hx hb dX5_letOut_0 rfl (lv_at hl 1 rfl) ?_
  refine lv_istore (lv' := [(4, .int x1), (0, .ref h0), (1, .int x1), (2, .int x2), (3, .ref h3)]) hx hb dX5_letOut_1 hl (by decide) rfl (fun ls hl => ?_)
  refine lv_iconst (v := (0 : Int32)) hx hb dX5_letOut_3 (by decide) ?_
  refine lv_istore (lv' := [(5, .int (0 : Int32)), (4, .int x1), (0, .ref h0), (1, .int x1), (2, .int x2), (3, .ref h3)]) hx hb dX5_letOut_4 hl (by decide) rfl (fun ls hl => ?_)
  refine lv_iconst (v := (0 : Int32)) hx hb dX5_letOut_6 (by decide) ?_
  refine lv_istore (lv' := [(6, .int (0 : Int32)), (5, .int (0 : Int32)), (4, .int x1), (0, .ref h0), (1, .int x1), (2, .int x2), (3, .ref h3)]) hx hb dX5_letOut_7 hl (by decide) rfl (fun ls hl => ?_)
  exact L9 FU x1 x2 x1 (0 : Int32) (0 : Int32) A M n t A2 M2 n2 t2 H locs hP hD hS ls (lv_sub hl [3, 4, 5, 6, 2, 1, 0] rfl) hf
end
