section
variable {l : Launch} {D : va_G} {cI cC : ClassId}
abbrev rmX8_grind : Room := { frames := 5, cells := 0, slots := 0, locals := 92 }
set_option maxHeartbeats 4000000 in
set_option maxRecDepth 100000 in
theorem c_X8_grind (b : Nat → Nat) (x1 : Int32) (x2 : Int32) (S : Nat → Int32) (P : Nat → Int32) (Hd : Nat → Int32) (Tr : Nat → Int32) (Tx : Nat → Int32) (told : Nat → Int32) (pasts : Int32) (runs : Int32) (typed : Int32) (spot : Int32) (frm : Int32) (reas : Int32) (caus : Int32) (ords : Int32) (ordr : Int32) (R : Int32 × (Nat → Int32) × (Nat → Int32) × Int32) (hf : f_X8_grind x1 x2 S P pasts runs = some R) : WrI l yX8_grind wsX8_grind rmX8_grind D cI cC (w_model cI cC b S P Hd Tr Tx told pasts runs typed spot frm reas caus ords ordr) (w_model cI cC b R.2.1 R.2.2.1 Hd Tr Tx told R.2.2.2 runs typed spot frm reas caus ords ordr) [.ref (b 0), .int x1, .int x2] R.1 := by
  refine en_W (cc := cX8_grind) (n := 5) (by decide) rfl (Nat.le_of_ble_eq_true rfl) ?_
  intro p e s m args below meth c Q AA ls hx hb hml hown hts hK hN hP hD hS hl ret
  have hown : s.vm.findClass RX8 = some m.cls := hown
  have hF : FX p m c cX8_grind 5 s args wsX8_grind RX8 D cI cC := ⟨⟨hx, hb, hml, hown, hts⟩, hK, hN⟩
  have hl : lv_has ls 5 [(0, .ref (b 0)), (1, .int x1), (2, .int x2)] := hl
  have k1_ := hts (.constant RX8 96 (-1000004)) (List.mem_of_getElem? (i := 1) rfl)
  rw [f_X8_grind] at hf
  obtain ⟨H, hH⟩ : ∃ z : Heap, z = s.heap := ⟨_, rfl⟩
  obtain ⟨locs, hL⟩ : ∃ z : List Loc, z = [] := ⟨_, rfl⟩
  replace hP := hH ▸ hP
  replace hS : va_S AA s.heap H locs := by rw [hH, hL]; exact hS
  suffices hgoal : W p l e rmX8_grind s m args below meth c H locs 0 0 Q (F0 m 0 ls []) by rw [hH, hL] at hgoal; exact hgoal
  clear hH hL
  refine lv_aload_n hx hb dX8_grind_0 rfl (lv_at hl 0 rfl) ?_
  refine lv_iload_n hx hb dX8_grind_1 rfl (lv_at hl 1 rfl) ?_
  refine lv_iload_n hx hb dX8_grind_2 rfl (lv_at hl 2 rfl) ?_
  obtain ⟨q1, hq1, hf⟩ := ob hf
  refine cl_RV (As := [.int x1, .int x2]) (rest := []) hF hP hD (c_X8_couldGrind b x1 x2 S P Hd Tr Tx told pasts runs typed spot frm reas caus ords ordr q1 hq1) (cwV 2 hts gX8_grind_X8_couldGrind rfl rfl rfl (by decide +kernel) ⟨(Nat.le_of_ble_eq_true rfl), (Nat.le_of_ble_eq_true rfl)⟩) [0, 1, 2, 3, 4, 5, 6] rfl (by decide +kernel) (va_recv hK hP (ci := 8) (q0 := 0) rfl rfl) rfl rfl hl.1 (Nat.le_of_ble_eq_true rfl) dX8_grind_3 ⟨Nat.zero_le _, Nat.zero_le _⟩ ?_
  refine lv_istore_n (lv' := [(3, .int q1), (0, .ref (b 0)), (1, .int x1), (2, .int x2)]) hx hb dX8_grind_6 rfl hl (by decide) rfl (fun ls hl => ?_)
  refine lv_iload_n hx hb dX8_grind_7 rfl (lv_at hl 0 rfl) ?_
  refine lv_if_ge (tgt := 13) hx hb dX8_grind_8 (by decide) (fun hc2 => ?_) (fun hc2 => ?_)
  · replace hf := it hc2 hf
    refine lv_aload_n hx hb dX8_grind_13 rfl (lv_at hl 1 rfl) ?_
    obtain ⟨q3, hq3, hf⟩ := ob hf
    refine cl_VV (W1 := (w_model cI cC b S q3.1 Hd Tr Tx told q3.2 runs typed spot frm reas caus ords ordr)) (As := []) (rest := []) hF hP hD hS (c_X8_changes b S P Hd Tr Tx told pasts runs typed spot frm reas caus ords ordr q3 hq3) (cwV 0 hts gX8_grind_X8_changes rfl rfl rfl (by decide +kernel) ⟨(Nat.le_of_ble_eq_true rfl), (Nat.le_of_ble_eq_true rfl)⟩) [0, 1, 2, 3, 4, 5, 6] rfl (by decide +kernel) (va_recv hK hP (ci := 8) (q0 := 0) rfl rfl) rfl rfl hl.1 (Nat.le_of_ble_eq_true rfl) dX8_grind_14 ⟨Nat.zero_le _, Nat.zero_le _⟩ (hA2 [(b 0), (b 1), (b 2), (b 3), (b 4), (b 5), (b 6)] rfl rfl) [] rfl [] rfl rfl (nW := 7) rfl (by decide +kernel) (fun H locs hP hD hS => ?_)
    refine lv_aload_n hx hb dX8_grind_17 rfl (lv_at hl 1 rfl) ?_
    refine lv_iload_n hx hb dX8_grind_18 rfl (lv_at hl 2 rfl) ?_
    refine lv_iload_n hx hb dX8_grind_19 rfl (lv_at hl 3 rfl) ?_
    obtain ⟨q4, hq4, hf⟩ := ob hf
    refine cl_VV (W1 := (w_model cI cC b q4 q3.1 Hd Tr Tx told q3.2 runs typed spot frm reas caus ords ordr)) (As := [.int x1, .int x2]) (rest := []) hF hP hD hS (c_X8_grinds b x1 x2 S q3.1 Hd Tr Tx told q3.2 runs typed spot frm reas caus ords ordr q4 hq4) (cwV 2 hts gX8_grind_X8_grinds rfl rfl rfl (by decide +kernel) ⟨(Nat.le_of_ble_eq_true rfl), (Nat.le_of_ble_eq_true rfl)⟩) [0, 1, 2, 3, 4, 5, 6] rfl (by decide +kernel) (va_recv hK hP (ci := 8) (q0 := 0) rfl rfl) rfl rfl hl.1 (Nat.le_of_ble_eq_true rfl) dX8_grind_20 ⟨Nat.zero_le _, Nat.zero_le _⟩ (hA2 [(b 0), (b 1), (b 2), (b 3), (b 4), (b 5), (b 6)] rfl rfl) [] rfl [] rfl rfl (nW := 7) rfl (by decide +kernel) (fun H locs hP hD hS => ?_)
    refine lv_aload_n hx hb dX8_grind_23 rfl (lv_at hl 1 rfl) ?_
    refine lv_iload_n hx hb dX8_grind_24 rfl (lv_at hl 3 rfl) ?_
    refine lv_bipush (v := (9 : Int32)) hx hb dX8_grind_25 (by decide) ?_
    refine lv_iadd hx hb dX8_grind_27 ?_
    refine lv_bipush (v := (10 : Int32)) hx hb dX8_grind_28 (by decide) ?_
    refine lv_idiv hx hb dX8_grind_30 (by decide) ?_
    obtain ⟨q5, hq5, hf⟩ := ob hf
    refine cl_WV (W1 := (w_model cI cC b q5.2 q3.1 Hd Tr Tx told q3.2 runs typed spot frm reas caus ords ordr)) (As := [.int ((x2 + (9 : Int32)) / (10 : Int32))]) (rest := []) hF hP hD hS (c_X8_passes b ((x2 + (9 : Int32)) / (10 : Int32)) q4 q3.1 Hd Tr Tx told q3.2 runs typed spot frm reas caus ords ordr q5 hq5) (cwV 1 hts gX8_grind_X8_passes rfl rfl rfl (by decide +kernel) ⟨(Nat.le_of_ble_eq_true rfl), (Nat.le_of_ble_eq_true rfl)⟩) [0, 1, 2, 3, 4, 5, 6] rfl (by decide +kernel) (va_recv hK hP (ci := 8) (q0 := 0) rfl rfl) rfl rfl hl.1 (Nat.le_of_ble_eq_true rfl) dX8_grind_31 ⟨Nat.zero_le _, Nat.zero_le _⟩ (hA2 [(b 0), (b 1), (b 2), (b 3), (b 4), (b 5), (b 6)] rfl rfl) [] rfl [] rfl rfl (nW := 7) rfl (by decide +kernel) (fun H locs hP hD hS => ?_)
    refine lv_istore (lv' := [(4, .int q5.1), (3, .int q1), (0, .ref (b 0)), (1, .int x1), (2, .int x2)]) hx hb dX8_grind_34 hl (by decide) rfl (fun ls hl => ?_)
    refine lv_iload hx hb dX8_grind_36 (lv_at hl 0 rfl) ?_
    refine lv_if_ge (tgt := 46) hx hb dX8_grind_38 (by decide) (fun hc6 => ?_) (fun hc6 => ?_)
    · replace hf := it hc6 hf
      refine lv_iload_n hx hb dX8_grind_46 rfl (lv_at hl 1 rfl) ?_
      obtain rfl := Option.some.inj hf
      exact ret 47 ls _ H locs dX8_grind_47 rfl rfl hP hS
    · replace hf := ie hc6 hf
      refine lv_ldc hx hb hown k1_ dX8_grind_41 ?_
      refine lv_goto (tgt := 47) hx hb dX8_grind_43 (by decide) ?_
      obtain rfl := Option.some.inj hf
      exact ret 47 ls _ H locs dX8_grind_47 rfl rfl hP hS
  · replace hf := ie hc2 hf
    refine lv_iload_n hx hb dX8_grind_11 rfl (lv_at hl 0 rfl) ?_
    obtain rfl := Option.some.inj hf
    exact ret 12 ls _ H locs dX8_grind_12 rfl rfl hP hS
abbrev rmX8_dial : Room := { frames := 3, cells := 0, slots := 0, locals := 42 }
set_option maxHeartbeats 4000000 in
set_option maxRecDepth 100000 in
theorem c_X8_dial (b : Nat → Nat) (x1 : Int32) (x2 : Int32) (S : Nat → Int32) (P : Nat → Int32) (Hd : Nat → Int32) (Tr : Nat → Int32) (Tx : Nat → Int32) (told : Nat → Int32) (pasts : Int32) (runs : Int32) (typed : Int32) (spot : Int32) (frm : Int32) (reas : Int32) (caus : Int32) (ords : Int32) (ordr : Int32) (R : Int32 × (Nat → Int32) × (Nat → Int32) × Int32) (hf : f_X8_dial x1 x2 S P pasts runs = some R) : WrI l yX8_dial wsX8_dial rmX8_dial D cI cC (w_model cI cC b S P Hd Tr Tx told pasts runs typed spot frm reas caus ords ordr) (w_model cI cC b R.2.1 R.2.2.1 Hd Tr Tx told R.2.2.2 runs typed spot frm reas caus ords ordr) [.ref (b 0), .int x1, .int x2] R.1 := by
  refine en_W (cc := cX8_dial) (n := 4) (by decide) rfl (Nat.le_of_ble_eq_true rfl) ?_
  intro p e s m args below meth c Q AA ls hx hb hml hown hts hK hN hP hD hS hl ret
  have hown : s.vm.findClass RX8 = some m.cls := hown
  have hF : FX p m c cX8_dial 4 s args wsX8_dial RX8 D cI cC := ⟨⟨hx, hb, hml, hown, hts⟩, hK, hN⟩
  have hl : lv_has ls 4 [(0, .ref (b 0)), (1, .int x1), (2, .int x2)] := hl
  have k1_ := hts (.constant RX8 64 (-1000001)) (List.mem_of_getElem? (i := 1) rfl)
  have k2_ := hts (.fieldLink RX8 7 "DriftGrindersModel" "s" "[I") (List.mem_of_getElem? (i := 2) rfl)
  have n8_ : ∀ w ∈ wsX80, w ∈ wsX8_dial := fun _ h => List.mem_cons_of_mem _ (List.mem_append_right _ h)
  rw [f_X8_dial] at hf
  obtain ⟨H, hH⟩ : ∃ z : Heap, z = s.heap := ⟨_, rfl⟩
  obtain ⟨locs, hL⟩ : ∃ z : List Loc, z = [] := ⟨_, rfl⟩
  replace hP := hH ▸ hP
  replace hS : va_S AA s.heap H locs := by rw [hH, hL]; exact hS
  suffices hgoal : W p l e rmX8_dial s m args below meth c H locs 0 0 Q (F0 m 0 ls []) by rw [hH, hL] at hgoal; exact hgoal
  clear hH hL
  refine lv_iload_n hx hb dX8_dial_0 rfl (lv_at hl 1 rfl) ?_
  obtain ⟨q1, hq1, hf⟩ := ob hf
  refine cl_RS (As := [.int x1]) (rest := []) hF hP hD (c_X8_isOne x1 q1 hq1) (va_cwS 1 hts gX8_dial_X8_isOne rfl rfl rfl (by decide +kernel) ⟨(Nat.le_of_ble_eq_true rfl), (Nat.le_of_ble_eq_true rfl)⟩) [] rfl (by decide +kernel) rfl rfl hl.1 (Nat.le_of_ble_eq_true rfl) dX8_dial_1 ⟨Nat.zero_le _, Nat.zero_le _⟩ ?_
  refine lv_if_eq (tgt := 17) hx hb dX8_dial_4 (by decide) (fun hc2 => ?_) (fun hc2 => ?_)
  · replace hf := it hc2 hf
    refine lv_ldc hx hb hown k1_ dX8_dial_17 ?_
    obtain rfl := Option.some.inj hf
    exact ret 19 ls _ H locs dX8_dial_19 rfl rfl hP hS
  · replace hf := ie hc2 hf
    refine lv_iload_n hx hb dX8_dial_7 rfl (lv_at hl 2 rfl) ?_
    refine lv_iconst (v := (1 : Int32)) hx hb dX8_dial_8 (by decide) ?_
    refine lv_bipush (v := (60 : Int32)) hx hb dX8_dial_9 (by decide) ?_
    obtain ⟨q3, hq3, hf⟩ := ob hf
    refine cl_RS (As := [.int x2, .int (1 : Int32), .int (60 : Int32)]) (rest := []) hF hP hD (c_X8_in x2 (1 : Int32) (60 : Int32) q3 hq3) (va_cwS 3 hts gX8_dial_X8_in rfl rfl rfl (by decide +kernel) ⟨(Nat.le_of_ble_eq_true rfl), (Nat.le_of_ble_eq_true rfl)⟩) [] rfl (by decide +kernel) rfl rfl hl.1 (Nat.le_of_ble_eq_true rfl) dX8_dial_11 ⟨Nat.zero_le _, Nat.zero_le _⟩ ?_
    refine lv_if_ne (tgt := 20) hx hb dX8_dial_14 (by decide) (fun hc4 => ?_) (fun hc4 => ?_)
    · replace hf := ie hc4 hf
      refine lv_aload_n hx hb dX8_dial_20 rfl (lv_at hl 0 rfl) ?_
      obtain ⟨q5, hq5, hf⟩ := ob hf
      refine cl_VV (W1 := (w_model cI cC b S q5.1 Hd Tr Tx told q5.2 runs typed spot frm reas caus ords ordr)) (As := []) (rest := []) hF hP hD hS (c_X8_changes b S P Hd Tr Tx told pasts runs typed spot frm reas caus ords ordr q5 hq5) (cwV 0 hts gX8_dial_X8_changes rfl rfl rfl (by decide +kernel) ⟨(Nat.le_of_ble_eq_true rfl), (Nat.le_of_ble_eq_true rfl)⟩) [0, 1, 2, 3, 4, 5, 6] rfl (by decide +kernel) (va_recv hK hP (ci := 8) (q0 := 0) rfl rfl) rfl rfl hl.1 (Nat.le_of_ble_eq_true rfl) dX8_dial_21 ⟨Nat.zero_le _, Nat.zero_le _⟩ (hA2 [(b 0), (b 1), (b 2), (b 3), (b 4), (b 5), (b 6)] rfl rfl) [] rfl [] rfl rfl (nW := 7) rfl (by decide +kernel) (fun H locs hP hD hS => ?_)
      refine lv_aload_n hx hb dX8_dial_24 rfl (lv_at hl 0 rfl) ?_
      refine lv_iload_n hx hb dX8_dial_25 rfl (lv_at hl 1 rfl) ?_
      refine lv_iconst (v := (0 : Int32)) hx hb dX8_dial_26 (by decide) ?_
      obtain ⟨q6, hq6, hf⟩ := ob hf
      refine cl_RV (As := [.int x1, .int (0 : Int32)]) (rest := []) hF hP hD (c_X8_ofBurr b x1 (0 : Int32) S q5.1 Hd Tr Tx told q5.2 runs typed spot frm reas caus ords ordr q6 hq6) (cwV 2 hts gX8_dial_X8_ofBurr rfl rfl rfl (by decide +kernel) ⟨(Nat.le_of_ble_eq_true rfl), (Nat.le_of_ble_eq_true rfl)⟩) [0, 1, 2, 3, 4, 5, 6] rfl (by decide +kernel) (va_recv hK hP (ci := 8) (q0 := 0) rfl rfl) rfl rfl hl.1 (Nat.le_of_ble_eq_true rfl) dX8_dial_27 ⟨Nat.zero_le _, Nat.zero_le _⟩ ?_
      refine lv_istore_n (lv' := [(3, .int q6), (0, .ref (b 0)), (1, .int x1), (2, .int x2)]) hx hb dX8_dial_30 rfl hl (by decide) rfl (fun ls hl => ?_)
      refine lv_aload_n hx hb dX8_dial_31 rfl (lv_at hl 1 rfl) ?_
      refine va_get hx hb hts n8_ hown hK hP 0 rfl rfl 0 (Nat.le_of_ble_eq_true rfl) k2_ (fun _ h => h) rfl dX8_dial_32 ?_
      refine lv_bipush (v := (13 : Int32)) hx hb dX8_dial_35 (by decide) ?_
      refine lv_iconst (v := (4 : Int32)) hx hb dX8_dial_37 (by decide) ?_
      refine lv_iload_n hx hb dX8_dial_38 rfl (lv_at hl 2 rfl) ?_
      refine lv_imul hx hb dX8_dial_39 ?_
      refine lv_iadd hx hb dX8_dial_40 ?_
      refine lv_iconst (v := (0 : Int32)) hx hb dX8_dial_41 (by decide) ?_
      refine lv_iadd hx hb dX8_dial_42 ?_
      refine lv_iload_n hx hb dX8_dial_43 rfl (lv_at hl 3 rfl) ?_
      obtain ⟨hg7, hf⟩ := gd_s hf
      refine x_iast hx hb hK hP hD hS 1 0 rfl rfl hg7 dX8_dial_44 (fun Z8 H locs eZ8 hP hD hS => ?_)
      replace hf := lt_e eZ8 hf
      have hP : va_P D vwCl (w_model cI cC b Z8 q5.1 Hd Tr Tx told q5.2 runs typed spot frm reas caus ords ordr) H := hP
      have hD : va_D AA (w_model cI cC b Z8 q5.1 Hd Tr Tx told q5.2 runs typed spot frm reas caus ords ordr) := hD
      refine lv_iload_n hx hb dX8_dial_45 rfl (lv_at hl 0 rfl) ?_
      obtain rfl := Option.some.inj hf
      exact ret 46 ls _ H locs dX8_dial_46 rfl rfl hP hS
    · replace hf := it hc4 hf
      refine lv_ldc hx hb hown k1_ dX8_dial_17 ?_
      obtain rfl := Option.some.inj hf
      exact ret 19 ls _ H locs dX8_dial_19 rfl rfl hP hS
abbrev rmX8_rest : Room := { frames := 3, cells := 0, slots := 0, locals := 47 }
set_option maxHeartbeats 4000000 in
set_option maxRecDepth 100000 in
theorem c_X8_rest (b : Nat → Nat) (x1 : Int32) (S : Nat → Int32) (P : Nat → Int32) (Hd : Nat → Int32) (Tr : Nat → Int32) (Tx : Nat → Int32) (told : Nat → Int32) (pasts : Int32) (runs : Int32) (typed : Int32) (spot : Int32) (frm : Int32) (reas : Int32) (caus : Int32) (ords : Int32) (ordr : Int32) (R : Int32 × (Nat → Int32) × (Nat → Int32) × Int32) (hf : f_X8_rest x1 S P pasts runs = some R) : WrI l yX8_rest wsX8_rest rmX8_rest D cI cC (w_model cI cC b S P Hd Tr Tx told pasts runs typed spot frm reas caus ords ordr) (w_model cI cC b R.2.1 R.2.2.1 Hd Tr Tx told R.2.2.2 runs typed spot frm reas caus ords ordr) [.ref (b 0), .int x1] R.1 := by
  refine en_W (cc := cX8_rest) (n := 2) (by decide) rfl (Nat.le_of_ble_eq_true rfl) ?_
  intro p e s m args below meth c Q AA ls hx hb hml hown hts hK hN hP hD hS hl ret
  have hown : s.vm.findClass RX8 = some m.cls := hown
  have hF : FX p m c cX8_rest 2 s args wsX8_rest RX8 D cI cC := ⟨⟨hx, hb, hml, hown, hts⟩, hK, hN⟩
  have hl : lv_has ls 2 [(0, .ref (b 0)), (1, .int x1)] := hl
  have k1_ := hts (.constant RX8 64 (-1000001)) (List.mem_of_getElem? (i := 1) rfl)
  rw [f_X8_rest] at hf
  obtain ⟨H, hH⟩ : ∃ z : Heap, z = s.heap := ⟨_, rfl⟩
  obtain ⟨locs, hL⟩ : ∃ z : List Loc, z = [] := ⟨_, rfl⟩
  replace hP := hH ▸ hP
  replace hS : va_S AA s.heap H locs := by rw [hH, hL]; exact hS
  suffices hgoal : W p l e rmX8_rest s m args below meth c H locs 0 0 Q (F0 m 0 ls []) by rw [hH, hL] at hgoal; exact hgoal
  clear hH hL
  refine lv_iload_n hx hb dX8_rest_0 rfl (lv_at hl 1 rfl) ?_
  refine lv_iconst (v := (1 : Int32)) hx hb dX8_rest_1 (by decide) ?_
  refine lv_sipush (v := (999 : Int32)) hx hb dX8_rest_2 (by decide) ?_
  obtain ⟨q1, hq1, hf⟩ := ob hf
  refine cl_RS (As := [.int x1, .int (1 : Int32), .int (999 : Int32)]) (rest := []) hF hP hD (c_X8_in x1 (1 : Int32) (999 : Int32) q1 hq1) (va_cwS 3 hts gX8_rest_X8_in rfl rfl rfl (by decide +kernel) ⟨(Nat.le_of_ble_eq_true rfl), (Nat.le_of_ble_eq_true rfl)⟩) [] rfl (by decide +kernel) rfl rfl hl.1 (Nat.le_of_ble_eq_true rfl) dX8_rest_5 ⟨Nat.zero_le _, Nat.zero_le _⟩ ?_
  refine lv_if_ne (tgt := 14) hx hb dX8_rest_8 (by decide) (fun hc2 => ?_) (fun hc2 => ?_)
  · replace hf := ie hc2 hf
    refine lv_aload_n hx hb dX8_rest_14 rfl (lv_at hl 0 rfl) ?_
    obtain ⟨q3, hq3, hf⟩ := ob hf
    refine cl_VV (W1 := (w_model cI cC b S q3.1 Hd Tr Tx told q3.2 runs typed spot frm reas caus ords ordr)) (As := []) (rest := []) hF hP hD hS (c_X8_changes b S P Hd Tr Tx told pasts runs typed spot frm reas caus ords ordr q3 hq3) (cwV 0 hts gX8_rest_X8_changes rfl rfl rfl (by decide +kernel) ⟨(Nat.le_of_ble_eq_true rfl), (Nat.le_of_ble_eq_true rfl)⟩) [0, 1, 2, 3, 4, 5, 6] rfl (by decide +kernel) (va_recv hK hP (ci := 8) (q0 := 0) rfl rfl) rfl rfl hl.1 (Nat.le_of_ble_eq_true rfl) dX8_rest_15 ⟨Nat.zero_le _, Nat.zero_le _⟩ (hA2 [(b 0), (b 1), (b 2), (b 3), (b 4), (b 5), (b 6)] rfl rfl) [] rfl [] rfl rfl (nW := 7) rfl (by decide +kernel) (fun H locs hP hD hS => ?_)
    refine lv_aload_n hx hb dX8_rest_18 rfl (lv_at hl 0 rfl) ?_
    refine lv_iload_n hx hb dX8_rest_19 rfl (lv_at hl 1 rfl) ?_
    obtain ⟨q4, hq4, hf⟩ := ob hf
    refine cl_WV (W1 := (w_model cI cC b q4.2 q3.1 Hd Tr Tx told q3.2 runs typed spot frm reas caus ords ordr)) (As := [.int x1]) (rest := []) hF hP hD hS (c_X8_passes b x1 S q3.1 Hd Tr Tx told q3.2 runs typed spot frm reas caus ords ordr q4 hq4) (cwV 1 hts gX8_rest_X8_passes rfl rfl rfl (by decide +kernel) ⟨(Nat.le_of_ble_eq_true rfl), (Nat.le_of_ble_eq_true rfl)⟩) [0, 1, 2, 3, 4, 5, 6] rfl (by decide +kernel) (va_recv hK hP (ci := 8) (q0 := 0) rfl rfl) rfl rfl hl.1 (Nat.le_of_ble_eq_true rfl) dX8_rest_20 ⟨Nat.zero_le _, Nat.zero_le _⟩ (hA2 [(b 0), (b 1), (b 2), (b 3), (b 4), (b 5), (b 6)] rfl rfl) [] rfl [] rfl rfl (nW := 7) rfl (by decide +kernel) (fun H locs hP hD hS => ?_)
    obtain rfl := Option.some.inj hf
    exact ret 23 ls _ H locs dX8_rest_23 rfl rfl hP hS
  · replace hf := it hc2 hf
    refine lv_ldc hx hb hown k1_ dX8_rest_11 ?_
    obtain rfl := Option.some.inj hf
    exact ret 13 ls _ H locs dX8_rest_13 rfl rfl hP hS
abbrev rmX8_timeNow : Room := { frames := 3, cells := 0, slots := 0, locals := 44 }
set_option maxHeartbeats 4000000 in
set_option maxRecDepth 100000 in
theorem c_X8_timeNow (b : Nat → Nat) (S : Nat → Int32) (P : Nat → Int32) (Hd : Nat → Int32) (Tr : Nat → Int32) (Tx : Nat → Int32) (told : Nat → Int32) (pasts : Int32) (runs : Int32) (typed : Int32) (spot : Int32) (frm : Int32) (reas : Int32) (caus : Int32) (ords : Int32) (ordr : Int32) (R : Int32) (hf : f_X8_timeNow S = some R) : RdI l yX8_timeNow wsX8_timeNow rmX8_timeNow D cI cC (w_model cI cC b S P Hd Tr Tx told pasts runs typed spot frm reas caus ords ordr) [.ref (b 0)] R := by
  refine en_R (cc := cX8_timeNow) (n := 3) (by decide) rfl (Nat.le_of_ble_eq_true rfl) ?_
  intro p e s m args below meth c Q AA ls hx hb hml hown hts hK hN hP hD hl ret
  have hown : s.vm.findClass RX8 = some m.cls := hown
  have hF : FX p m c cX8_timeNow 3 s args wsX8_timeNow RX8 D cI cC := ⟨⟨hx, hb, hml, hown, hts⟩, hK, hN⟩
  have hl : lv_has ls 3 [(0, .ref (b 0))] := hl
  have k1_ := hts (.fieldLink RX8 7 "DriftGrindersModel" "s" "[I") (List.mem_of_getElem? (i := 1) rfl)
  have n8_ : ∀ w ∈ wsX80, w ∈ wsX8_timeNow := fun _ h => List.mem_cons_of_mem _ (List.mem_append_right _ h)
  have L4 : ∀ n4 : Nat, ∀ (y1_4 : Int32) (y2_4 : Int32), ∀ ls : Array Slot, lv_has ls 3 [(0, .ref (b 0)), (1, .int y1_4), (2, .int y2_4)] → f_X8_timeNow_L4 S n4 y1_4 y2_4 = some R → W p l e rmX8_timeNow s m args below meth c s.heap [] 0 0 Q (F0 m 4 ls []) := by
    intro n4
    induction n4 with
    | zero => intro y1_4 y2_4 ls hl hf; rw [f_X8_timeNow_L4] at hf; cases hf
    | succ n4 IH4 =>
      intro y1_4 y2_4 ls hl hf
      rw [f_X8_timeNow_L4] at hf
      refine lv_iload_n hx hb dX8_timeNow_4 rfl (lv_at hl 2 rfl) ?_
      refine lv_aload_n hx hb dX8_timeNow_5 rfl (lv_at hl 0 rfl) ?_
      refine va_get hx hb hts n8_ hown hK hP 0 rfl rfl 0 (Nat.le_of_ble_eq_true rfl) k1_ (fun _ h => h) rfl dX8_timeNow_6 ?_
      refine lv_sipush (v := (145 : Int32)) hx hb dX8_timeNow_9 (by decide) ?_
      refine va_iald hx hb hK hP 1 0 rfl rfl (show ¬ ((145 : Int32) < 0 ∨ 631 ≤ (145 : Int32).toNatClampNeg) by decide) dX8_timeNow_12 ?_
      refine lv_icmp_ge (tgt := 53) hx hb dX8_timeNow_13 (by decide) (fun hc1 => ?_) (fun hc1 => ?_)
      · replace hf := it hc1 hf
        refine lv_iload_n hx hb dX8_timeNow_53 rfl (lv_at hl 1 rfl) ?_
        refine lv_aload_n hx hb dX8_timeNow_54 rfl (lv_at hl 0 rfl) ?_
        refine lv_sipush (v := (145 : Int32)) hx hb dX8_timeNow_55 (by decide) ?_
        refine lv_sipush (v := (146 : Int32)) hx hb dX8_timeNow_58 (by decide) ?_
        obtain ⟨q2, hq2, hf⟩ := ob hf
        refine cl_RV (As := [.int (145 : Int32), .int (146 : Int32)]) (rest := [.int y1_4]) hF hP hD (c_X8_amounts b (145 : Int32) (146 : Int32) S P Hd Tr Tx told pasts runs typed spot frm reas caus ords ordr q2 hq2) (cwV 2 hts gX8_timeNow_X8_amounts rfl rfl rfl (by decide +kernel) ⟨(Nat.le_of_ble_eq_true rfl), (Nat.le_of_ble_eq_true rfl)⟩) [0, 1, 2, 3, 4, 5, 6] rfl (by decide +kernel) (va_recv hK hP (ci := 8) (q0 := 0) rfl rfl) rfl rfl hl.1 (Nat.le_of_ble_eq_true rfl) dX8_timeNow_61 ⟨Nat.zero_le _, Nat.zero_le _⟩ ?_
        obtain ⟨hg3, hf⟩ := gd_s hf
        refine lv_idiv hx hb dX8_timeNow_64 hg3 ?_
        obtain rfl := Option.some.inj hf
        exact ret 65 ls _ dX8_timeNow_65 rfl rfl
      · replace hf := ie hc1 hf
        refine lv_iload_n hx hb dX8_timeNow_16 rfl (lv_at hl 1 rfl) ?_
        refine lv_aload_n hx hb dX8_timeNow_17 rfl (lv_at hl 0 rfl) ?_
        refine va_get hx hb hts n8_ hown hK hP 0 rfl rfl 0 (Nat.le_of_ble_eq_true rfl) k1_ (fun _ h => h) rfl dX8_timeNow_18 ?_
        refine lv_sipush (v := (146 : Int32)) hx hb dX8_timeNow_21 (by decide) ?_
        refine lv_iload_n hx hb dX8_timeNow_24 rfl (lv_at hl 2 rfl) ?_
        refine lv_iadd hx hb dX8_timeNow_25 ?_
        obtain ⟨hg4, hf⟩ := gd_s hf
        refine va_iald hx hb hK hP 1 0 rfl rfl hg4 dX8_timeNow_26 ?_
        obtain ⟨q5, hq5, hf⟩ := ob hf
        refine cl_RS (As := [.int (S ((146 : Int32) + y2_4).toNatClampNeg)]) (rest := [.int y1_4]) hF hP hD (c_X8_amountOf (S ((146 : Int32) + y2_4).toNatClampNeg) q5 hq5) (va_cwS 1 hts gX8_timeNow_X8_amountOf rfl rfl rfl (by decide +kernel) ⟨(Nat.le_of_ble_eq_true rfl), (Nat.le_of_ble_eq_true rfl)⟩) [] rfl (by decide +kernel) rfl rfl hl.1 (Nat.le_of_ble_eq_true rfl) dX8_timeNow_27 ⟨Nat.zero_le _, Nat.zero_le _⟩ ?_
        refine lv_aload_n hx hb dX8_timeNow_30 rfl (lv_at hl 0 rfl) ?_
        refine lv_aload_n hx hb dX8_timeNow_31 rfl (lv_at hl 0 rfl) ?_
        refine va_get hx hb hts n8_ hown hK hP 0 rfl rfl 0 (Nat.le_of_ble_eq_true rfl) k1_ (fun _ h => h) rfl dX8_timeNow_32 ?_
        refine lv_sipush (v := (146 : Int32)) hx hb dX8_timeNow_35 (by decide) ?_
        refine lv_iload_n hx hb dX8_timeNow_38 rfl (lv_at hl 2 rfl) ?_
        refine lv_iadd hx hb dX8_timeNow_39 ?_
        obtain ⟨hg6, hf⟩ := gd_s hf
        refine va_iald hx hb hK hP 1 0 rfl rfl hg6 dX8_timeNow_40 ?_
        obtain ⟨q7, hq7, hf⟩ := ob hf
        refine cl_RV (As := [.int (S ((146 : Int32) + y2_4).toNatClampNeg)]) (rest := [.int q5, .int y1_4]) hF hP hD (c_X8_flowOf b (S ((146 : Int32) + y2_4).toNatClampNeg) S P Hd Tr Tx told pasts runs typed spot frm reas caus ords ordr q7 hq7) (cwV 1 hts gX8_timeNow_X8_flowOf rfl rfl rfl (by decide +kernel) ⟨(Nat.le_of_ble_eq_true rfl), (Nat.le_of_ble_eq_true rfl)⟩) [0, 1, 2, 3, 4, 5, 6] rfl (by decide +kernel) (va_recv hK hP (ci := 8) (q0 := 0) rfl rfl) rfl rfl hl.1 (Nat.le_of_ble_eq_true rfl) dX8_timeNow_41 ⟨Nat.zero_le _, Nat.zero_le _⟩ ?_
        refine lv_imul hx hb dX8_timeNow_44 ?_
        refine lv_iadd hx hb dX8_timeNow_45 ?_
        refine lv_topi (fun v8 ev8 => ?_)
        replace hf := lt_e ev8 hf
        refine lv_istore_n (lv' := [(1, .int v8), (0, .ref (b 0)), (2, .int y2_4)]) hx hb dX8_timeNow_46 rfl hl (by decide) rfl (fun ls hl => ?_)
        obtain ⟨v9, ev9⟩ : ∃ z : Int32, z = y2_4 + (1 : Int32) := ⟨_, rfl⟩
        replace hf := lt_e ev9 hf
        refine lv_iinc (v := v9) (lv' := [(2, .int v9), (1, .int v8), (0, .ref (b 0))]) hx hb dX8_timeNow_47 hl (k := 2) rfl (by rw [ev9]; rfl) (by decide) rfl (fun ls hl => ?_)
        refine lv_goto (tgt := 4) hx hb dX8_timeNow_50 (by decide) ?_
        exact IH4 v8 v9 ls (lv_sub hl [2, 1, 0] rfl) hf
  rw [f_X8_timeNow] at hf
  refine lv_iconst (v := (0 : Int32)) hx hb dX8_timeNow_0 (by decide) ?_
  refine lv_istore_n (lv' := [(1, .int (0 : Int32)), (0, .ref (b 0))]) hx hb dX8_timeNow_1 rfl hl (by decide) rfl (fun ls hl => ?_)
  refine lv_iconst (v := (0 : Int32)) hx hb dX8_timeNow_2 (by decide) ?_
  refine lv_istore_n (lv' := [(2, .int (0 : Int32)), (1, .int (0 : Int32)), (0, .ref (b 0))]) hx hb dX8_timeNow_3 rfl hl (by decide) rfl (fun ls hl => ?_)
  exact L4 FU (0 : Int32) (0 : Int32) ls (lv_sub hl [2, 1, 0] rfl) hf
abbrev rmX8_corrects : Room := { frames := 2, cells := 0, slots := 0, locals := 22 }
set_option maxHeartbeats 4000000 in
set_option maxRecDepth 100000 in
theorem c_X8_corrects (b : Nat → Nat) (x1 : Int32) (x2 : Int32) (S : Nat → Int32) (P : Nat → Int32) (Hd : Nat → Int32) (Tr : Nat → Int32) (Tx : Nat → Int32) (told : Nat → Int32) (pasts : Int32) (runs : Int32) (typed : Int32) (spot : Int32) (frm : Int32) (reas : Int32) (caus : Int32) (ords : Int32) (ordr : Int32) (R : (Nat → Int32)) (hf : f_X8_corrects x1 x2 S = some R) : WrV l yX8_corrects wsX8_corrects rmX8_corrects D cI cC (w_model cI cC b S P Hd Tr Tx told pasts runs typed spot frm reas caus ords ordr) (w_model cI cC b R P Hd Tr Tx told pasts runs typed spot frm reas caus ords ordr) [.ref (b 0), .int x1, .int x2] := by
  refine en_V (cc := cX8_corrects) (n := 4) (by decide) rfl (Nat.le_of_ble_eq_true rfl) ?_
  intro p e s m args below meth c Q AA ls hx hb hml hown hts hK hN hP hD hS hl ret
  have hown : s.vm.findClass RX8 = some m.cls := hown
  have hF : FX p m c cX8_corrects 4 s args wsX8_corrects RX8 D cI cC := ⟨⟨hx, hb, hml, hown, hts⟩, hK, hN⟩
  have hl : lv_has ls 4 [(0, .ref (b 0)), (1, .int x1), (2, .int x2)] := hl
  have k1_ := hts (.fieldLink RX8 7 "DriftGrindersModel" "s" "[I") (List.mem_of_getElem? (i := 1) rfl)
  have n8_ : ∀ w ∈ wsX80, w ∈ wsX8_corrects := fun _ h => List.mem_cons_of_mem _ (List.mem_append_right _ h)
  have J60 : ∀ (y1_60 : Int32) (z0_60 : Int32) (z1_60 : Int32) (S_60 : Nat → Int32) (H : Heap) (locs : List Loc), va_P D vwCl (w_model cI cC b S_60 P Hd Tr Tx told pasts runs typed spot frm reas caus ords ordr) H → va_D AA (w_model cI cC b S_60 P Hd Tr Tx told pasts runs typed spot frm reas caus ords ordr) → va_S AA s.heap H locs → ∀ ls : Array Slot, lv_has ls 4 [(0, .ref (b 0)), (1, .int y1_60)] → f_X8_corrects_J60 y1_60 z0_60 z1_60 S_60 = some R → W p l e rmX8_corrects s m args below meth c H locs 0 0 Q (F0 m 60 ls [.int z0_60, .int z1_60, .ref (b 1)]) := by
    intro y1_60 z0_60 z1_60 S_60 H locs hP hD hS ls hl hf
    rw [f_X8_corrects_J60] at hf
    obtain ⟨hg6, hf⟩ := gd_s hf
    refine x_iast hx hb hK hP hD hS 1 0 rfl rfl hg6 dX8_corrects_60 (fun Z7 H locs eZ7 hP hD hS => ?_)
    replace hf := lt_e eZ7 hf
    have hP : va_P D vwCl (w_model cI cC b Z7 P Hd Tr Tx told pasts runs typed spot frm reas caus ords ordr) H := hP
    have hD : va_D AA (w_model cI cC b Z7 P Hd Tr Tx told pasts runs typed spot frm reas caus ords ordr) := hD
    refine lv_aload_n hx hb dX8_corrects_61 rfl (lv_at hl 0 rfl) ?_
    refine va_get hx hb hts n8_ hown hK hP 0 rfl rfl 0 (Nat.le_of_ble_eq_true rfl) k1_ (fun _ h => h) rfl dX8_corrects_62 ?_
    refine lv_bipush (v := (13 : Int32)) hx hb dX8_corrects_65 (by decide) ?_
    refine lv_iconst (v := (4 : Int32)) hx hb dX8_corrects_67 (by decide) ?_
    refine lv_iload_n hx hb dX8_corrects_68 rfl (lv_at hl 1 rfl) ?_
    refine lv_imul hx hb dX8_corrects_69 ?_
    refine lv_iadd hx hb dX8_corrects_70 ?_
    refine lv_iconst (v := (3 : Int32)) hx hb dX8_corrects_71 (by decide) ?_
    refine lv_iadd hx hb dX8_corrects_72 ?_
    refine lv_topi (fun v8 ev8 => ?_)
    replace hf := lt_e ev8 hf
    refine lv_dup2_11 hx hb dX8_corrects_73 rfl rfl ?_
    obtain ⟨hg9, hf⟩ := gd_s hf
    refine va_iald hx hb hK hP 1 0 rfl rfl hg9 dX8_corrects_74 ?_
    refine lv_iconst (v := (1 : Int32)) hx hb dX8_corrects_75 (by decide) ?_
    refine lv_iadd hx hb dX8_corrects_76 ?_
    refine lv_topi (fun v10 ev10 => ?_)
    replace hf := lt_e ev10 hf
    obtain ⟨hg11, hf⟩ := gd_s hf
    refine x_iast hx hb hK hP hD hS 1 0 rfl rfl hg11 dX8_corrects_77 (fun Z12 H locs eZ12 hP hD hS => ?_)
    replace hf := lt_e eZ12 hf
    have hP : va_P D vwCl (w_model cI cC b Z12 P Hd Tr Tx told pasts runs typed spot frm reas caus ords ordr) H := hP
    have hD : va_D AA (w_model cI cC b Z12 P Hd Tr Tx told pasts runs typed spot frm reas caus ords ordr) := hD
    obtain rfl := Option.some.inj hf
    exact ret 78 ls H locs dX8_corrects_78 hP hS
  rw [f_X8_corrects] at hf
  obtain ⟨H, hH⟩ : ∃ z : Heap, z = s.heap := ⟨_, rfl⟩
  obtain ⟨locs, hL⟩ : ∃ z : List Loc, z = [] := ⟨_, rfl⟩
  replace hP := hH ▸ hP
  replace hS : va_S AA s.heap H locs := by rw [hH, hL]; exact hS
  suffices hgoal : W p l e rmX8_corrects s m args below meth c H locs 0 0 Q (F0 m 0 ls []) by rw [hH, hL] at hgoal; exact hgoal
  clear hH hL
  refine lv_aload_n hx hb dX8_corrects_0 rfl (lv_at hl 0 rfl) ?_
  refine lv_iload_n hx hb dX8_corrects_1 rfl (lv_at hl 1 rfl) ?_
  refine lv_iconst (v := (0 : Int32)) hx hb dX8_corrects_2 (by decide) ?_
  obtain ⟨q1, hq1, hf⟩ := ob hf
  refine cl_RV (As := [.int x1, .int (0 : Int32)]) (rest := []) hF hP hD (c_X8_ofBurr b x1 (0 : Int32) S P Hd Tr Tx told pasts runs typed spot frm reas caus ords ordr q1 hq1) (cwV 2 hts gX8_corrects_X8_ofBurr rfl rfl rfl (by decide +kernel) ⟨(Nat.le_of_ble_eq_true rfl), (Nat.le_of_ble_eq_true rfl)⟩) [0, 1, 2, 3, 4, 5, 6] rfl (by decide +kernel) (va_recv hK hP (ci := 8) (q0 := 0) rfl rfl) rfl rfl hl.1 (Nat.le_of_ble_eq_true rfl) dX8_corrects_3 ⟨Nat.zero_le _, Nat.zero_le _⟩ ?_
  refine lv_iload_n hx hb dX8_corrects_6 rfl (lv_at hl 2 rfl) ?_
  refine lv_imul hx hb dX8_corrects_7 ?_
  refine lv_aload_n hx hb dX8_corrects_8 rfl (lv_at hl 0 rfl) ?_
  refine va_get hx hb hts n8_ hown hK hP 0 rfl rfl 0 (Nat.le_of_ble_eq_true rfl) k1_ (fun _ h => h) rfl dX8_corrects_9 ?_
  refine lv_bipush (v := (7 : Int32)) hx hb dX8_corrects_12 (by decide) ?_
  refine va_iald hx hb hK hP 1 0 rfl rfl (show ¬ ((7 : Int32) < 0 ∨ 631 ≤ (7 : Int32).toNatClampNeg) by decide) dX8_corrects_14 ?_
  refine lv_iconst (v := (2 : Int32)) hx hb dX8_corrects_15 (by decide) ?_
  refine lv_idiv hx hb dX8_corrects_16 (by decide) ?_
  refine lv_iadd hx hb dX8_corrects_17 ?_
  refine lv_aload_n hx hb dX8_corrects_18 rfl (lv_at hl 0 rfl) ?_
  refine va_get hx hb hts n8_ hown hK hP 0 rfl rfl 0 (Nat.le_of_ble_eq_true rfl) k1_ (fun _ h => h) rfl dX8_corrects_19 ?_
  refine lv_bipush (v := (7 : Int32)) hx hb dX8_corrects_22 (by decide) ?_
  refine va_iald hx hb hK hP 1 0 rfl rfl (show ¬ ((7 : Int32) < 0 ∨ 631 ≤ (7 : Int32).toNatClampNeg) by decide) dX8_corrects_24 ?_
  obtain ⟨hg2, hf⟩ := gd_s hf
  refine lv_idiv hx hb dX8_corrects_25 hg2 ?_
  refine lv_topi (fun v3 ev3 => ?_)
  replace hf := lt_e ev3 hf
  refine lv_istore_n (lv' := [(3, .int v3), (0, .ref (b 0)), (1, .int x1), (2, .int x2)]) hx hb dX8_corrects_26 rfl hl (by decide) rfl (fun ls hl => ?_)
  refine lv_aload_n hx hb dX8_corrects_27 rfl (lv_at hl 1 rfl) ?_
  refine va_get hx hb hts n8_ hown hK hP 0 rfl rfl 0 (Nat.le_of_ble_eq_true rfl) k1_ (fun _ h => h) rfl dX8_corrects_28 ?_
  refine lv_bipush (v := (13 : Int32)) hx hb dX8_corrects_31 (by decide) ?_
  refine lv_iconst (v := (4 : Int32)) hx hb dX8_corrects_33 (by decide) ?_
  refine lv_iload_n hx hb dX8_corrects_34 rfl (lv_at hl 2 rfl) ?_
  refine lv_imul hx hb dX8_corrects_35 ?_
  refine lv_iadd hx hb dX8_corrects_36 ?_
  refine lv_iconst (v := (0 : Int32)) hx hb dX8_corrects_37 (by decide) ?_
  refine lv_iadd hx hb dX8_corrects_38 ?_
  refine lv_iload_n hx hb dX8_corrects_39 rfl (lv_at hl 0 rfl) ?_
  refine lv_iconst (v := (1 : Int32)) hx hb dX8_corrects_40 (by decide) ?_
  refine lv_icmp_ge (tgt := 48) hx hb dX8_corrects_41 (by decide) (fun hc4 => ?_) (fun hc4 => ?_)
  · replace hf := it hc4 hf
    refine lv_iload_n hx hb dX8_corrects_48 rfl (lv_at hl 0 rfl) ?_
    refine lv_bipush (v := (60 : Int32)) hx hb dX8_corrects_49 (by decide) ?_
    refine lv_icmp_le (tgt := 59) hx hb dX8_corrects_51 (by decide) (fun hc5 => ?_) (fun hc5 => ?_)
    · replace hf := it hc5 hf
      refine lv_iload_n hx hb dX8_corrects_59 rfl (lv_at hl 0 rfl) ?_
      exact J60 x1 v3 (((13 : Int32) + ((4 : Int32) * x1)) + (0 : Int32)) S H locs hP hD hS ls (lv_sub hl [1, 2] rfl) hf
    · replace hf := ie hc5 hf
      refine lv_bipush (v := (60 : Int32)) hx hb dX8_corrects_54 (by decide) ?_
      refine lv_goto (tgt := 60) hx hb dX8_corrects_56 (by decide) ?_
      exact J60 x1 (60 : Int32) (((13 : Int32) + ((4 : Int32) * x1)) + (0 : Int32)) S H locs hP hD hS ls (lv_sub hl [1, 2] rfl) hf
  · replace hf := ie hc4 hf
    refine lv_iconst (v := (1 : Int32)) hx hb dX8_corrects_44 (by decide) ?_
    refine lv_goto (tgt := 60) hx hb dX8_corrects_45 (by decide) ?_
    exact J60 x1 (1 : Int32) (((13 : Int32) + ((4 : Int32) * x1)) + (0 : Int32)) S H locs hP hD hS ls (lv_sub hl [1, 2] rfl) hf
abbrev rmX8_away : Room := { frames := 1, cells := 0, slots := 0, locals := 0 }
set_option maxHeartbeats 4000000 in
set_option maxRecDepth 100000 in
theorem c_X8_away (b : Nat → Nat) (x1 : Int32) (S : Nat → Int32) (P : Nat → Int32) (Hd : Nat → Int32) (Tr : Nat → Int32) (Tx : Nat → Int32) (told : Nat → Int32) (pasts : Int32) (runs : Int32) (typed : Int32) (spot : Int32) (frm : Int32) (reas : Int32) (caus : Int32) (ords : Int32) (ordr : Int32) (R : Int32) (hf : f_X8_away x1 S = some R) : RdI l yX8_away wsX8_away rmX8_away D cI cC (w_model cI cC b S P Hd Tr Tx told pasts runs typed spot frm reas caus ords ordr) [.ref (b 0), .int x1] R := by
  refine en_R (cc := cX8_away) (n := 3) (by decide) rfl (Nat.le_of_ble_eq_true rfl) ?_
  intro p e s m args below meth c Q AA ls hx hb hml hown hts hK hN hP hD hl ret
  have hown : s.vm.findClass RX8 = some m.cls := hown
  have hF : FX p m c cX8_away 3 s args wsX8_away RX8 D cI cC := ⟨⟨hx, hb, hml, hown, hts⟩, hK, hN⟩
  have hl : lv_has ls 3 [(0, .ref (b 0)), (1, .int x1)] := hl
  have k1_ := hts (.fieldLink RX8 7 "DriftGrindersModel" "s" "[I") (List.mem_of_getElem? (i := 1) rfl)
  have n8_ : ∀ w ∈ wsX80, w ∈ wsX8_away := fun _ h => List.mem_cons_of_mem _ (List.mem_append_right _ h)
  rw [f_X8_away] at hf
  refine lv_iload_n hx hb dX8_away_0 rfl (lv_at hl 1 rfl) ?_
  refine lv_aload_n hx hb dX8_away_1 rfl (lv_at hl 0 rfl) ?_
  refine va_get hx hb hts n8_ hown hK hP 0 rfl rfl 0 (Nat.le_of_ble_eq_true rfl) k1_ (fun _ h => h) rfl dX8_away_2 ?_
  refine lv_bipush (v := (7 : Int32)) hx hb dX8_away_5 (by decide) ?_
  refine va_iald hx hb hK hP 1 0 rfl rfl (show ¬ ((7 : Int32) < 0 ∨ 631 ≤ (7 : Int32).toNatClampNeg) by decide) dX8_away_7 ?_
  refine lv_isub hx hb dX8_away_8 ?_
  refine lv_topi (fun v1 ev1 => ?_)
  replace hf := lt_e ev1 hf
  refine lv_istore_n (lv' := [(2, .int v1), (0, .ref (b 0)), (1, .int x1)]) hx hb dX8_away_9 rfl hl (by decide) rfl (fun ls hl => ?_)
  refine lv_iload_n hx hb dX8_away_10 rfl (lv_at hl 0 rfl) ?_
  refine lv_if_ge (tgt := 19) hx hb dX8_away_11 (by decide) (fun hc2 => ?_) (fun hc2 => ?_)
  · replace hf := it hc2 hf
    refine lv_iload_n hx hb dX8_away_19 rfl (lv_at hl 0 rfl) ?_
    obtain rfl := Option.some.inj hf
    exact ret 20 ls _ dX8_away_20 rfl rfl
  · replace hf := ie hc2 hf
    refine lv_iload_n hx hb dX8_away_14 rfl (lv_at hl 0 rfl) ?_
    refine lv_ineg hx hb dX8_away_15 ?_
    refine lv_goto (tgt := 20) hx hb dX8_away_16 (by decide) ?_
    obtain rfl := Option.some.inj hf
    exact ret 20 ls _ dX8_away_20 rfl rfl
abbrev rmX8_shot : Room := { frames := 4, cells := 0, slots := 0, locals := 66 }
set_option maxHeartbeats 4000000 in
set_option maxRecDepth 100000 in
theorem c_X8_shot (b : Nat → Nat) (S : Nat → Int32) (P : Nat → Int32) (Hd : Nat → Int32) (Tr : Nat → Int32) (Tx : Nat → Int32) (told : Nat → Int32) (pasts : Int32) (runs : Int32) (typed : Int32) (spot : Int32) (frm : Int32) (reas : Int32) (caus : Int32) (ords : Int32) (ordr : Int32) (R : Int32 × (Nat → Int32) × (Nat → Int32) × Int32) (hf : f_X8_shot S P pasts runs = some R) : WrI l yX8_shot wsX8_shot rmX8_shot D cI cC (w_model cI cC b S P Hd Tr Tx told pasts runs typed spot frm reas caus ords ordr) (w_model cI cC b R.2.1 R.2.2.1 Hd Tr Tx told R.2.2.2 runs typed spot frm reas caus ords ordr) [.ref (b 0)] R.1 := by
  refine en_W (cc := cX8_shot) (n := 7) (by decide) rfl (Nat.le_of_ble_eq_true rfl) ?_
  intro p e s m args below meth c Q AA ls hx hb hml hown hts hK hN hP hD hS hl ret
  have hown : s.vm.findClass RX8 = some m.cls := hown
  have hF : FX p m c cX8_shot 7 s args wsX8_shot RX8 D cI cC := ⟨⟨hx, hb, hml, hown, hts⟩, hK, hN⟩
  have hl : lv_has ls 7 [(0, .ref (b 0))] := hl
  have k1_ := hts (.fieldLink RX8 7 "DriftGrindersModel" "s" "[I") (List.mem_of_getElem? (i := 1) rfl)
  have k2_ := hts (.constant RX8 79 (-1000002)) (List.mem_of_getElem? (i := 2) rfl)
  have k3_ := hts (.constant RX8 96 (-1000004)) (List.mem_of_getElem? (i := 3) rfl)
  have n8_ : ∀ w ∈ wsX80, w ∈ wsX8_shot := fun _ h => List.mem_cons_of_mem _ (List.mem_append_right _ h)
  have J374 : ∀ (y1_374 : Int32) (S_374 : Nat → Int32) (P_374 : Nat → Int32) (pasts_374 : Int32) (H : Heap) (locs : List Loc), va_P D vwCl (w_model cI cC b S_374 P_374 Hd Tr Tx told pasts_374 runs typed spot frm reas caus ords ordr) H → va_D AA (w_model cI cC b S_374 P_374 Hd Tr Tx told pasts_374 runs typed spot frm reas caus ords ordr) → va_S AA s.heap H locs → ∀ ls : Array Slot, lv_has ls 7 [(0, .ref (b 0)), (1, .int y1_374)] → f_X8_shot_J374 runs y1_374 S_374 P_374 pasts_374 = some R → W p l e rmX8_shot s m args below meth c H locs 0 0 Q (F0 m 374 ls []) := by
    intro y1_374 S_374 P_374 pasts_374 H locs hP hD hS ls hl hf
    rw [f_X8_shot_J374] at hf
    refine lv_aload_n hx hb dX8_shot_374 rfl (lv_at hl 0 rfl) ?_
    refine lv_iload_n hx hb dX8_shot_375 rfl (lv_at hl 1 rfl) ?_
    refine lv_bipush (v := (10 : Int32)) hx hb dX8_shot_376 (by decide) ?_
    refine lv_idiv hx hb dX8_shot_378 (by decide) ?_
    obtain ⟨q52, hq52, hf⟩ := ob hf
    refine cl_WV (W1 := (w_model cI cC b q52.2 P_374 Hd Tr Tx told pasts_374 runs typed spot frm reas caus ords ordr)) (As := [.int (y1_374 / (10 : Int32))]) (rest := []) hF hP hD hS (c_X8_passes b (y1_374 / (10 : Int32)) S_374 P_374 Hd Tr Tx told pasts_374 runs typed spot frm reas caus ords ordr q52 hq52) (cwV 1 hts gX8_shot_X8_passes rfl rfl rfl (by decide +kernel) ⟨(Nat.le_of_ble_eq_true rfl), (Nat.le_of_ble_eq_true rfl)⟩) [0, 1, 2, 3, 4, 5, 6] rfl (by decide +kernel) (va_recv hK hP (ci := 8) (q0 := 0) rfl rfl) rfl rfl hl.1 (Nat.le_of_ble_eq_true rfl) dX8_shot_379 ⟨Nat.zero_le _, Nat.zero_le _⟩ (hA2 [(b 0), (b 1), (b 2), (b 3), (b 4), (b 5), (b 6)] rfl rfl) [] rfl [] rfl rfl (nW := 7) rfl (by decide +kernel) (fun H locs hP hD hS => ?_)
    refine lv_istore (lv' := [(6, .int q52.1), (0, .ref (b 0)), (1, .int y1_374)]) hx hb dX8_shot_382 hl (by decide) rfl (fun ls hl => ?_)
    refine lv_iload hx hb dX8_shot_384 (lv_at hl 0 rfl) ?_
    refine lv_if_ge (tgt := 394) hx hb dX8_shot_386 (by decide) (fun hc53 => ?_) (fun hc53 => ?_)
    · replace hf := it hc53 hf
      refine lv_iload_n hx hb dX8_shot_394 rfl (lv_at hl 2 rfl) ?_
      obtain rfl := Option.some.inj hf
      exact ret 395 ls _ H locs dX8_shot_395 rfl rfl hP hS
    · replace hf := ie hc53 hf
      refine lv_ldc hx hb hown k3_ dX8_shot_389 ?_
      refine lv_goto (tgt := 395) hx hb dX8_shot_391 (by decide) ?_
      obtain rfl := Option.some.inj hf
      exact ret 395 ls _ H locs dX8_shot_395 rfl rfl hP hS
  have J330 : ∀ (y1_330 : Int32) (y5_330 : Int32) (z0_330 : Int32) (z1_330 : Int32) (z2_330 : Int32) (S_330 : Nat → Int32) (P_330 : Nat → Int32) (pasts_330 : Int32) (H : Heap) (locs : List Loc), va_P D vwCl (w_model cI cC b S_330 P_330 Hd Tr Tx told pasts_330 runs typed spot frm reas caus ords ordr) H → va_D AA (w_model cI cC b S_330 P_330 Hd Tr Tx told pasts_330 runs typed spot frm reas caus ords ordr) → va_S AA s.heap H locs → ∀ ls : Array Slot, lv_has ls 7 [(0, .ref (b 0)), (1, .int y1_330), (5, .int y5_330)] → f_X8_shot_J330 runs y1_330 y5_330 z0_330 z1_330 z2_330 S_330 P_330 pasts_330 = some R → W p l e rmX8_shot s m args below meth c H locs 0 0 Q (F0 m 330 ls [.int z0_330, .int z1_330, .int z2_330, .ref (b 1)]) := by
    intro y1_330 y5_330 z0_330 z1_330 z2_330 S_330 P_330 pasts_330 H locs hP hD hS ls hl hf
    rw [f_X8_shot_J330] at hf
    refine lv_iadd hx hb dX8_shot_330 ?_
    refine lv_topi (fun v44 ev44 => ?_)
    replace hf := lt_e ev44 hf
    obtain ⟨hg45, hf⟩ := gd_s hf
    refine x_iast hx hb hK hP hD hS 1 0 rfl rfl hg45 dX8_shot_331 (fun Z46 H locs eZ46 hP hD hS => ?_)
    replace hf := lt_e eZ46 hf
    have hP : va_P D vwCl (w_model cI cC b Z46 P_330 Hd Tr Tx told pasts_330 runs typed spot frm reas caus ords ordr) H := hP
    have hD : va_D AA (w_model cI cC b Z46 P_330 Hd Tr Tx told pasts_330 runs typed spot frm reas caus ords ordr) := hD
    refine lv_aload_n hx hb dX8_shot_332 rfl (lv_at hl 0 rfl) ?_
    refine va_get hx hb hts n8_ hown hK hP 0 rfl rfl 0 (Nat.le_of_ble_eq_true rfl) k1_ (fun _ h => h) rfl dX8_shot_333 ?_
    refine lv_sipush (v := (145 : Int32)) hx hb dX8_shot_336 (by decide) ?_
    refine lv_iconst (v := (0 : Int32)) hx hb dX8_shot_339 (by decide) ?_
    refine x_iast hx hb hK hP hD hS 1 0 rfl rfl (show ¬ ((145 : Int32) < 0 ∨ 631 ≤ (145 : Int32).toNatClampNeg) by decide) dX8_shot_340 (fun Z47 H locs eZ47 hP hD hS => ?_)
    replace hf := lt_e eZ47 hf
    have hP : va_P D vwCl (w_model cI cC b Z47 P_330 Hd Tr Tx told pasts_330 runs typed spot frm reas caus ords ordr) H := hP
    have hD : va_D AA (w_model cI cC b Z47 P_330 Hd Tr Tx told pasts_330 runs typed spot frm reas caus ords ordr) := hD
    refine lv_aload_n hx hb dX8_shot_341 rfl (lv_at hl 0 rfl) ?_
    refine va_get hx hb hts n8_ hown hK hP 0 rfl rfl 0 (Nat.le_of_ble_eq_true rfl) k1_ (fun _ h => h) rfl dX8_shot_342 ?_
    refine lv_bipush (v := (12 : Int32)) hx hb dX8_shot_345 (by decide) ?_
    refine va_iald hx hb hK hP 1 0 rfl rfl (show ¬ ((12 : Int32) < 0 ∨ 631 ≤ (12 : Int32).toNatClampNeg) by decide) dX8_shot_347 ?_
    refine lv_iconst (v := (1 : Int32)) hx hb dX8_shot_348 (by decide) ?_
    refine lv_icmp_ne (tgt := 374) hx hb dX8_shot_349 (by decide) (fun hc48 => ?_) (fun hc48 => ?_)
    · replace hf := ie hc48 hf
      exact J374 y1_330 Z47 P_330 pasts_330 H locs hP hD hS ls (lv_sub hl [0, 1] rfl) hf
    · replace hf := it hc48 hf
      refine lv_aload_n hx hb dX8_shot_352 rfl (lv_at hl 0 rfl) ?_
      refine lv_iload_n hx hb dX8_shot_353 rfl (lv_at hl 1 rfl) ?_
      obtain ⟨q49, hq49, hf⟩ := ob hf
      refine cl_RV (As := [.int y1_330]) (rest := []) hF hP hD (c_X8_away b y1_330 Z47 P_330 Hd Tr Tx told pasts_330 runs typed spot frm reas caus ords ordr q49 hq49) (cwV 1 hts gX8_shot_X8_away rfl rfl rfl (by decide +kernel) ⟨(Nat.le_of_ble_eq_true rfl), (Nat.le_of_ble_eq_true rfl)⟩) [0, 1, 2, 3, 4, 5, 6] rfl (by decide +kernel) (va_recv hK hP (ci := 8) (q0 := 0) rfl rfl) rfl rfl hl.1 (Nat.le_of_ble_eq_true rfl) dX8_shot_354 ⟨Nat.zero_le _, Nat.zero_le _⟩ ?_
      refine lv_aload_n hx hb dX8_shot_357 rfl (lv_at hl 0 rfl) ?_
      refine va_get hx hb hts n8_ hown hK hP 0 rfl rfl 0 (Nat.le_of_ble_eq_true rfl) k1_ (fun _ h => h) rfl dX8_shot_358 ?_
      refine lv_bipush (v := (8 : Int32)) hx hb dX8_shot_361 (by decide) ?_
      refine va_iald hx hb hK hP 1 0 rfl rfl (show ¬ ((8 : Int32) < 0 ∨ 631 ≤ (8 : Int32).toNatClampNeg) by decide) dX8_shot_363 ?_
      refine lv_icmp_le (tgt := 374) hx hb dX8_shot_364 (by decide) (fun hc50 => ?_) (fun hc50 => ?_)
      · replace hf := it hc50 hf
        exact J374 y1_330 Z47 P_330 pasts_330 H locs hP hD hS ls (lv_sub hl [0, 1] rfl) hf
      · replace hf := ie hc50 hf
        refine lv_aload_n hx hb dX8_shot_367 rfl (lv_at hl 0 rfl) ?_
        refine lv_iload hx hb dX8_shot_368 (lv_at hl 2 rfl) ?_
        refine lv_iload_n hx hb dX8_shot_370 rfl (lv_at hl 1 rfl) ?_
        obtain ⟨q51, hq51, hf⟩ := ob hf
        refine cl_VV (W1 := (w_model cI cC b q51 P_330 Hd Tr Tx told pasts_330 runs typed spot frm reas caus ords ordr)) (As := [.int y5_330, .int y1_330]) (rest := []) hF hP hD hS (c_X8_corrects b y5_330 y1_330 Z47 P_330 Hd Tr Tx told pasts_330 runs typed spot frm reas caus ords ordr q51 hq51) (cwV 2 hts gX8_shot_X8_corrects rfl rfl rfl (by decide +kernel) ⟨(Nat.le_of_ble_eq_true rfl), (Nat.le_of_ble_eq_true rfl)⟩) [0, 1, 2, 3, 4, 5, 6] rfl (by decide +kernel) (va_recv hK hP (ci := 8) (q0 := 0) rfl rfl) rfl rfl hl.1 (Nat.le_of_ble_eq_true rfl) dX8_shot_371 ⟨Nat.zero_le _, Nat.zero_le _⟩ (hA2 [(b 0), (b 1), (b 2), (b 3), (b 4), (b 5), (b 6)] rfl rfl) [] rfl [] rfl rfl (nW := 7) rfl (by decide +kernel) (fun H locs hP hD hS => ?_)
        exact J374 y1_330 q51 P_330 pasts_330 H locs hP hD hS ls (lv_sub hl [0, 1] rfl) hf
  have J280 : ∀ (y1_280 : Int32) (y2_280 : Int32) (y5_280 : Int32) (z0_280 : Int32) (z1_280 : Int32) (z2_280 : Int32) (S_280 : Nat → Int32) (P_280 : Nat → Int32) (pasts_280 : Int32) (H : Heap) (locs : List Loc), va_P D vwCl (w_model cI cC b S_280 P_280 Hd Tr Tx told pasts_280 runs typed spot frm reas caus ords ordr) H → va_D AA (w_model cI cC b S_280 P_280 Hd Tr Tx told pasts_280 runs typed spot frm reas caus ords ordr) → va_S AA s.heap H locs → ∀ ls : Array Slot, lv_has ls 7 [(0, .ref (b 0)), (1, .int y1_280), (2, .int y2_280), (5, .int y5_280)] → f_X8_shot_J280 runs y1_280 y2_280 y5_280 z0_280 z1_280 z2_280 S_280 P_280 pasts_280 = some R → W p l e rmX8_shot s m args below meth c H locs 0 0 Q (F0 m 280 ls [.int z0_280, .int z1_280, .int z2_280, .ref (b 1)]) := by
    intro y1_280 y2_280 y5_280 z0_280 z1_280 z2_280 S_280 P_280 pasts_280 H locs hP hD hS ls hl hf
    rw [f_X8_shot_J280] at hf
    refine lv_iadd hx hb dX8_shot_280 ?_
    refine lv_topi (fun v35 ev35 => ?_)
    replace hf := lt_e ev35 hf
    obtain ⟨hg36, hf⟩ := gd_s hf
    refine x_iast hx hb hK hP hD hS 1 0 rfl rfl hg36 dX8_shot_281 (fun Z37 H locs eZ37 hP hD hS => ?_)
    replace hf := lt_e eZ37 hf
    have hP : va_P D vwCl (w_model cI cC b Z37 P_280 Hd Tr Tx told pasts_280 runs typed spot frm reas caus ords ordr) H := hP
    have hD : va_D AA (w_model cI cC b Z37 P_280 Hd Tr Tx told pasts_280 runs typed spot frm reas caus ords ordr) := hD
    refine lv_aload_n hx hb dX8_shot_282 rfl (lv_at hl 0 rfl) ?_
    refine va_get hx hb hts n8_ hown hK hP 0 rfl rfl 0 (Nat.le_of_ble_eq_true rfl) k1_ (fun _ h => h) rfl dX8_shot_283 ?_
    refine lv_iconst (v := (5 : Int32)) hx hb dX8_shot_286 (by decide) ?_
    refine lv_dup2_11 hx hb dX8_shot_287 rfl rfl ?_
    refine va_iald hx hb hK hP 1 0 rfl rfl (show ¬ ((5 : Int32) < 0 ∨ 631 ≤ (5 : Int32).toNatClampNeg) by decide) dX8_shot_288 ?_
    refine lv_iconst (v := (1 : Int32)) hx hb dX8_shot_289 (by decide) ?_
    refine lv_iadd hx hb dX8_shot_290 ?_
    refine lv_topi (fun v38 ev38 => ?_)
    replace hf := lt_e ev38 hf
    refine x_iast hx hb hK hP hD hS 1 0 rfl rfl (show ¬ ((5 : Int32) < 0 ∨ 631 ≤ (5 : Int32).toNatClampNeg) by decide) dX8_shot_291 (fun Z39 H locs eZ39 hP hD hS => ?_)
    replace hf := lt_e eZ39 hf
    have hP : va_P D vwCl (w_model cI cC b Z39 P_280 Hd Tr Tx told pasts_280 runs typed spot frm reas caus ords ordr) H := hP
    have hD : va_D AA (w_model cI cC b Z39 P_280 Hd Tr Tx told pasts_280 runs typed spot frm reas caus ords ordr) := hD
    refine lv_aload_n hx hb dX8_shot_292 rfl (lv_at hl 0 rfl) ?_
    refine va_get hx hb hts n8_ hown hK hP 0 rfl rfl 0 (Nat.le_of_ble_eq_true rfl) k1_ (fun _ h => h) rfl dX8_shot_293 ?_
    refine lv_iconst (v := (3 : Int32)) hx hb dX8_shot_296 (by decide) ?_
    refine lv_dup2_11 hx hb dX8_shot_297 rfl rfl ?_
    refine va_iald hx hb hK hP 1 0 rfl rfl (show ¬ ((3 : Int32) < 0 ∨ 631 ≤ (3 : Int32).toNatClampNeg) by decide) dX8_shot_298 ?_
    refine lv_iload_n hx hb dX8_shot_299 rfl (lv_at hl 2 rfl) ?_
    refine lv_iadd hx hb dX8_shot_300 ?_
    refine lv_topi (fun v40 ev40 => ?_)
    replace hf := lt_e ev40 hf
    refine x_iast hx hb hK hP hD hS 1 0 rfl rfl (show ¬ ((3 : Int32) < 0 ∨ 631 ≤ (3 : Int32).toNatClampNeg) by decide) dX8_shot_301 (fun Z41 H locs eZ41 hP hD hS => ?_)
    replace hf := lt_e eZ41 hf
    have hP : va_P D vwCl (w_model cI cC b Z41 P_280 Hd Tr Tx told pasts_280 runs typed spot frm reas caus ords ordr) H := hP
    have hD : va_D AA (w_model cI cC b Z41 P_280 Hd Tr Tx told pasts_280 runs typed spot frm reas caus ords ordr) := hD
    refine lv_aload_n hx hb dX8_shot_302 rfl (lv_at hl 0 rfl) ?_
    refine va_get hx hb hts n8_ hown hK hP 0 rfl rfl 0 (Nat.le_of_ble_eq_true rfl) k1_ (fun _ h => h) rfl dX8_shot_303 ?_
    refine lv_bipush (v := (6 : Int32)) hx hb dX8_shot_306 (by decide) ?_
    refine lv_dup2_11 hx hb dX8_shot_308 rfl rfl ?_
    refine va_iald hx hb hK hP 1 0 rfl rfl (show ¬ ((6 : Int32) < 0 ∨ 631 ≤ (6 : Int32).toNatClampNeg) by decide) dX8_shot_309 ?_
    refine lv_aload_n hx hb dX8_shot_310 rfl (lv_at hl 0 rfl) ?_
    refine lv_iload_n hx hb dX8_shot_311 rfl (lv_at hl 1 rfl) ?_
    obtain ⟨q42, hq42, hf⟩ := ob hf
    refine cl_RV (As := [.int y1_280]) (rest := [.int (Z41 (6 : Int32).toNatClampNeg), .int (6 : Int32), .ref (b 1)]) hF hP hD (c_X8_away b y1_280 Z41 P_280 Hd Tr Tx told pasts_280 runs typed spot frm reas caus ords ordr q42 hq42) (cwV 1 hts gX8_shot_X8_away rfl rfl rfl (by decide +kernel) ⟨(Nat.le_of_ble_eq_true rfl), (Nat.le_of_ble_eq_true rfl)⟩) [0, 1, 2, 3, 4, 5, 6] rfl (by decide +kernel) (va_recv hK hP (ci := 8) (q0 := 0) rfl rfl) rfl rfl hl.1 (Nat.le_of_ble_eq_true rfl) dX8_shot_312 ⟨Nat.zero_le _, Nat.zero_le _⟩ ?_
    refine lv_aload_n hx hb dX8_shot_315 rfl (lv_at hl 0 rfl) ?_
    refine va_get hx hb hts n8_ hown hK hP 0 rfl rfl 0 (Nat.le_of_ble_eq_true rfl) k1_ (fun _ h => h) rfl dX8_shot_316 ?_
    refine lv_bipush (v := (8 : Int32)) hx hb dX8_shot_319 (by decide) ?_
    refine va_iald hx hb hK hP 1 0 rfl rfl (show ¬ ((8 : Int32) < 0 ∨ 631 ≤ (8 : Int32).toNatClampNeg) by decide) dX8_shot_321 ?_
    refine lv_icmp_gt (tgt := 329) hx hb dX8_shot_322 (by decide) (fun hc43 => ?_) (fun hc43 => ?_)
    · replace hf := it hc43 hf
      refine lv_iconst (v := (0 : Int32)) hx hb dX8_shot_329 (by decide) ?_
      exact J330 y1_280 y5_280 (0 : Int32) (Z41 (6 : Int32).toNatClampNeg) (6 : Int32) Z41 P_280 pasts_280 H locs hP hD hS ls (lv_sub hl [0, 1, 3] rfl) hf
    · replace hf := ie hc43 hf
      refine lv_iconst (v := (1 : Int32)) hx hb dX8_shot_325 (by decide) ?_
      refine lv_goto (tgt := 330) hx hb dX8_shot_326 (by decide) ?_
      exact J330 y1_280 y5_280 (1 : Int32) (Z41 (6 : Int32).toNatClampNeg) (6 : Int32) Z41 P_280 pasts_280 H locs hP hD hS ls (lv_sub hl [0, 1, 3] rfl) hf
  have J222 : ∀ (y1_222 : Int32) (y2_222 : Int32) (y5_222 : Int32) (z0_222 : Int32) (z1_222 : Int32) (S_222 : Nat → Int32) (P_222 : Nat → Int32) (pasts_222 : Int32) (H : Heap) (locs : List Loc), va_P D vwCl (w_model cI cC b S_222 P_222 Hd Tr Tx told pasts_222 runs typed spot frm reas caus ords ordr) H → va_D AA (w_model cI cC b S_222 P_222 Hd Tr Tx told pasts_222 runs typed spot frm reas caus ords ordr) → va_S AA s.heap H locs → ∀ ls : Array Slot, lv_has ls 7 [(0, .ref (b 0)), (1, .int y1_222), (2, .int y2_222), (5, .int y5_222)] → f_X8_shot_J222 runs y1_222 y2_222 y5_222 z0_222 z1_222 S_222 P_222 pasts_222 = some R → W p l e rmX8_shot s m args below meth c H locs 0 0 Q (F0 m 222 ls [.int z0_222, .int z1_222, .ref (b 1)]) := by
    intro y1_222 y2_222 y5_222 z0_222 z1_222 S_222 P_222 pasts_222 H locs hP hD hS ls hl hf
    rw [f_X8_shot_J222] at hf
    obtain ⟨hg28, hf⟩ := gd_s hf
    refine x_iast hx hb hK hP hD hS 1 0 rfl rfl hg28 dX8_shot_222 (fun Z29 H locs eZ29 hP hD hS => ?_)
    replace hf := lt_e eZ29 hf
    have hP : va_P D vwCl (w_model cI cC b Z29 P_222 Hd Tr Tx told pasts_222 runs typed spot frm reas caus ords ordr) H := hP
    have hD : va_D AA (w_model cI cC b Z29 P_222 Hd Tr Tx told pasts_222 runs typed spot frm reas caus ords ordr) := hD
    refine lv_aload_n hx hb dX8_shot_223 rfl (lv_at hl 0 rfl) ?_
    refine va_get hx hb hts n8_ hown hK hP 0 rfl rfl 0 (Nat.le_of_ble_eq_true rfl) k1_ (fun _ h => h) rfl dX8_shot_224 ?_
    refine lv_sipush (v := (552 : Int32)) hx hb dX8_shot_227 (by decide) ?_
    refine lv_aload_n hx hb dX8_shot_230 rfl (lv_at hl 0 rfl) ?_
    refine va_get hx hb hts n8_ hown hK hP 0 rfl rfl 0 (Nat.le_of_ble_eq_true rfl) k1_ (fun _ h => h) rfl dX8_shot_231 ?_
    refine lv_iconst (v := (0 : Int32)) hx hb dX8_shot_234 (by decide) ?_
    refine va_iald hx hb hK hP 1 0 rfl rfl (show ¬ ((0 : Int32) < 0 ∨ 631 ≤ (0 : Int32).toNatClampNeg) by decide) dX8_shot_235 ?_
    refine lv_topi (fun v30 ev30 => ?_)
    replace hf := lt_e ev30 hf
    refine x_iast hx hb hK hP hD hS 1 0 rfl rfl (show ¬ ((552 : Int32) < 0 ∨ 631 ≤ (552 : Int32).toNatClampNeg) by decide) dX8_shot_236 (fun Z31 H locs eZ31 hP hD hS => ?_)
    replace hf := lt_e eZ31 hf
    have hP : va_P D vwCl (w_model cI cC b Z31 P_222 Hd Tr Tx told pasts_222 runs typed spot frm reas caus ords ordr) H := hP
    have hD : va_D AA (w_model cI cC b Z31 P_222 Hd Tr Tx told pasts_222 runs typed spot frm reas caus ords ordr) := hD
    refine lv_aload_n hx hb dX8_shot_237 rfl (lv_at hl 0 rfl) ?_
    refine va_get hx hb hts n8_ hown hK hP 0 rfl rfl 0 (Nat.le_of_ble_eq_true rfl) k1_ (fun _ h => h) rfl dX8_shot_238 ?_
    refine lv_sipush (v := (553 : Int32)) hx hb dX8_shot_241 (by decide) ?_
    refine lv_aload_n hx hb dX8_shot_244 rfl (lv_at hl 0 rfl) ?_
    refine va_get hx hb hts n8_ hown hK hP 0 rfl rfl 0 (Nat.le_of_ble_eq_true rfl) k1_ (fun _ h => h) rfl dX8_shot_245 ?_
    refine lv_sipush (v := (145 : Int32)) hx hb dX8_shot_248 (by decide) ?_
    refine va_iald hx hb hK hP 1 0 rfl rfl (show ¬ ((145 : Int32) < 0 ∨ 631 ≤ (145 : Int32).toNatClampNeg) by decide) dX8_shot_251 ?_
    refine lv_topi (fun v32 ev32 => ?_)
    replace hf := lt_e ev32 hf
    refine x_iast hx hb hK hP hD hS 1 0 rfl rfl (show ¬ ((553 : Int32) < 0 ∨ 631 ≤ (553 : Int32).toNatClampNeg) by decide) dX8_shot_252 (fun Z33 H locs eZ33 hP hD hS => ?_)
    replace hf := lt_e eZ33 hf
    have hP : va_P D vwCl (w_model cI cC b Z33 P_222 Hd Tr Tx told pasts_222 runs typed spot frm reas caus ords ordr) H := hP
    have hD : va_D AA (w_model cI cC b Z33 P_222 Hd Tr Tx told pasts_222 runs typed spot frm reas caus ords ordr) := hD
    refine lv_aload_n hx hb dX8_shot_253 rfl (lv_at hl 0 rfl) ?_
    refine va_get hx hb hts n8_ hown hK hP 0 rfl rfl 0 (Nat.le_of_ble_eq_true rfl) k1_ (fun _ h => h) rfl dX8_shot_254 ?_
    refine lv_sipush (v := (546 : Int32)) hx hb dX8_shot_257 (by decide) ?_
    refine lv_dup2_11 hx hb dX8_shot_260 rfl rfl ?_
    refine va_iald hx hb hK hP 1 0 rfl rfl (show ¬ ((546 : Int32) < 0 ∨ 631 ≤ (546 : Int32).toNatClampNeg) by decide) dX8_shot_261 ?_
    refine lv_aload_n hx hb dX8_shot_262 rfl (lv_at hl 0 rfl) ?_
    refine va_get hx hb hts n8_ hown hK hP 0 rfl rfl 0 (Nat.le_of_ble_eq_true rfl) k1_ (fun _ h => h) rfl dX8_shot_263 ?_
    refine lv_sipush (v := (546 : Int32)) hx hb dX8_shot_266 (by decide) ?_
    refine va_iald hx hb hK hP 1 0 rfl rfl (show ¬ ((546 : Int32) < 0 ∨ 631 ≤ (546 : Int32).toNatClampNeg) by decide) dX8_shot_269 ?_
    refine lv_bipush (v := (12 : Int32)) hx hb dX8_shot_270 (by decide) ?_
    refine lv_icmp_ge (tgt := 279) hx hb dX8_shot_272 (by decide) (fun hc34 => ?_) (fun hc34 => ?_)
    · replace hf := it hc34 hf
      refine lv_iconst (v := (0 : Int32)) hx hb dX8_shot_279 (by decide) ?_
      exact J280 y1_222 y2_222 y5_222 (0 : Int32) (Z33 (546 : Int32).toNatClampNeg) (546 : Int32) Z33 P_222 pasts_222 H locs hP hD hS ls (lv_sub hl [0, 1, 2, 3] rfl) hf
    · replace hf := ie hc34 hf
      refine lv_iconst (v := (1 : Int32)) hx hb dX8_shot_275 (by decide) ?_
      refine lv_goto (tgt := 280) hx hb dX8_shot_276 (by decide) ?_
      exact J280 y1_222 y2_222 y5_222 (1 : Int32) (Z33 (546 : Int32).toNatClampNeg) (546 : Int32) Z33 P_222 pasts_222 H locs hP hD hS ls (lv_sub hl [0, 1, 2, 3] rfl) hf
  have L123 : ∀ n123 : Nat, ∀ (y1_123 : Int32) (y2_123 : Int32) (y3_123 : Int32) (y5_123 : Int32) (y6_123 : Int32) (S_123 : Nat → Int32) (P_123 : Nat → Int32) (pasts_123 : Int32) (H : Heap) (locs : List Loc), va_P D vwCl (w_model cI cC b S_123 P_123 Hd Tr Tx told pasts_123 runs typed spot frm reas caus ords ordr) H → va_D AA (w_model cI cC b S_123 P_123 Hd Tr Tx told pasts_123 runs typed spot frm reas caus ords ordr) → va_S AA s.heap H locs → ∀ ls : Array Slot, lv_has ls 7 [(0, .ref (b 0)), (1, .int y1_123), (2, .int y2_123), (3, .int y3_123), (5, .int y5_123), (6, .int y6_123)] → f_X8_shot_L123 runs y1_123 y2_123 y3_123 y5_123 n123 y6_123 S_123 P_123 pasts_123 = some R → W p l e rmX8_shot s m args below meth c H locs 0 0 Q (F0 m 123 ls []) := by
    intro n123
    induction n123 with
    | zero => intro y1_123 y2_123 y3_123 y5_123 y6_123 S_123 P_123 pasts_123 H locs hP hD hS ls hl hf; rw [f_X8_shot_L123] at hf; cases hf
    | succ n123 IH123 =>
      intro y1_123 y2_123 y3_123 y5_123 y6_123 S_123 P_123 pasts_123 H locs hP hD hS ls hl hf
      rw [f_X8_shot_L123] at hf
      refine lv_iload hx hb dX8_shot_123 (lv_at hl 5 rfl) ?_
      refine lv_bipush (v := (7 : Int32)) hx hb dX8_shot_125 (by decide) ?_
      refine lv_icmp_lt (tgt := 161) hx hb dX8_shot_127 (by decide) (fun hc16 => ?_) (fun hc16 => ?_)
      · replace hf := it hc16 hf
        refine lv_aload_n hx hb dX8_shot_161 rfl (lv_at hl 0 rfl) ?_
        refine va_get hx hb hts n8_ hown hK hP 0 rfl rfl 0 (Nat.le_of_ble_eq_true rfl) k1_ (fun _ h => h) rfl dX8_shot_162 ?_
        refine lv_sipush (v := (547 : Int32)) hx hb dX8_shot_165 (by decide) ?_
        refine lv_aload_n hx hb dX8_shot_168 rfl (lv_at hl 0 rfl) ?_
        refine va_get hx hb hts n8_ hown hK hP 0 rfl rfl 0 (Nat.le_of_ble_eq_true rfl) k1_ (fun _ h => h) rfl dX8_shot_169 ?_
        refine lv_iconst (v := (5 : Int32)) hx hb dX8_shot_172 (by decide) ?_
        refine va_iald hx hb hK hP 1 0 rfl rfl (show ¬ ((5 : Int32) < 0 ∨ 631 ≤ (5 : Int32).toNatClampNeg) by decide) dX8_shot_173 ?_
        refine lv_topi (fun v17 ev17 => ?_)
        replace hf := lt_e ev17 hf
        refine x_iast hx hb hK hP hD hS 1 0 rfl rfl (show ¬ ((547 : Int32) < 0 ∨ 631 ≤ (547 : Int32).toNatClampNeg) by decide) dX8_shot_174 (fun Z18 H locs eZ18 hP hD hS => ?_)
        replace hf := lt_e eZ18 hf
        have hP : va_P D vwCl (w_model cI cC b Z18 P_123 Hd Tr Tx told pasts_123 runs typed spot frm reas caus ords ordr) H := hP
        have hD : va_D AA (w_model cI cC b Z18 P_123 Hd Tr Tx told pasts_123 runs typed spot frm reas caus ords ordr) := hD
        refine lv_aload_n hx hb dX8_shot_175 rfl (lv_at hl 0 rfl) ?_
        refine va_get hx hb hts n8_ hown hK hP 0 rfl rfl 0 (Nat.le_of_ble_eq_true rfl) k1_ (fun _ h => h) rfl dX8_shot_176 ?_
        refine lv_sipush (v := (548 : Int32)) hx hb dX8_shot_179 (by decide) ?_
        refine lv_iload_n hx hb dX8_shot_182 rfl (lv_at hl 1 rfl) ?_
        refine x_iast hx hb hK hP hD hS 1 0 rfl rfl (show ¬ ((548 : Int32) < 0 ∨ 631 ≤ (548 : Int32).toNatClampNeg) by decide) dX8_shot_183 (fun Z19 H locs eZ19 hP hD hS => ?_)
        replace hf := lt_e eZ19 hf
        have hP : va_P D vwCl (w_model cI cC b Z19 P_123 Hd Tr Tx told pasts_123 runs typed spot frm reas caus ords ordr) H := hP
        have hD : va_D AA (w_model cI cC b Z19 P_123 Hd Tr Tx told pasts_123 runs typed spot frm reas caus ords ordr) := hD
        refine lv_aload_n hx hb dX8_shot_184 rfl (lv_at hl 0 rfl) ?_
        refine va_get hx hb hts n8_ hown hK hP 0 rfl rfl 0 (Nat.le_of_ble_eq_true rfl) k1_ (fun _ h => h) rfl dX8_shot_185 ?_
        refine lv_sipush (v := (549 : Int32)) hx hb dX8_shot_188 (by decide) ?_
        refine lv_iload_n hx hb dX8_shot_191 rfl (lv_at hl 2 rfl) ?_
        refine x_iast hx hb hK hP hD hS 1 0 rfl rfl (show ¬ ((549 : Int32) < 0 ∨ 631 ≤ (549 : Int32).toNatClampNeg) by decide) dX8_shot_192 (fun Z20 H locs eZ20 hP hD hS => ?_)
        replace hf := lt_e eZ20 hf
        have hP : va_P D vwCl (w_model cI cC b Z20 P_123 Hd Tr Tx told pasts_123 runs typed spot frm reas caus ords ordr) H := hP
        have hD : va_D AA (w_model cI cC b Z20 P_123 Hd Tr Tx told pasts_123 runs typed spot frm reas caus ords ordr) := hD
        refine lv_aload_n hx hb dX8_shot_193 rfl (lv_at hl 0 rfl) ?_
        refine va_get hx hb hts n8_ hown hK hP 0 rfl rfl 0 (Nat.le_of_ble_eq_true rfl) k1_ (fun _ h => h) rfl dX8_shot_194 ?_
        refine lv_sipush (v := (550 : Int32)) hx hb dX8_shot_197 (by decide) ?_
        refine lv_iload hx hb dX8_shot_200 (lv_at hl 4 rfl) ?_
        refine x_iast hx hb hK hP hD hS 1 0 rfl rfl (show ¬ ((550 : Int32) < 0 ∨ 631 ≤ (550 : Int32).toNatClampNeg) by decide) dX8_shot_202 (fun Z21 H locs eZ21 hP hD hS => ?_)
        replace hf := lt_e eZ21 hf
        have hP : va_P D vwCl (w_model cI cC b Z21 P_123 Hd Tr Tx told pasts_123 runs typed spot frm reas caus ords ordr) H := hP
        have hD : va_D AA (w_model cI cC b Z21 P_123 Hd Tr Tx told pasts_123 runs typed spot frm reas caus ords ordr) := hD
        refine lv_aload_n hx hb dX8_shot_203 rfl (lv_at hl 0 rfl) ?_
        refine va_get hx hb hts n8_ hown hK hP 0 rfl rfl 0 (Nat.le_of_ble_eq_true rfl) k1_ (fun _ h => h) rfl dX8_shot_204 ?_
        refine lv_sipush (v := (551 : Int32)) hx hb dX8_shot_207 (by decide) ?_
        refine lv_iconst (v := (2 : Int32)) hx hb dX8_shot_210 (by decide) ?_
        refine lv_iload_n hx hb dX8_shot_211 rfl (lv_at hl 3 rfl) ?_
        refine lv_imul hx hb dX8_shot_212 ?_
        refine lv_iload_n hx hb dX8_shot_213 rfl (lv_at hl 2 rfl) ?_
        refine lv_icmp_le (tgt := 221) hx hb dX8_shot_214 (by decide) (fun hc22 => ?_) (fun hc22 => ?_)
        · replace hf := it hc22 hf
          refine lv_iconst (v := (0 : Int32)) hx hb dX8_shot_221 (by decide) ?_
          exact J222 y1_123 y2_123 y5_123 (0 : Int32) (551 : Int32) Z21 P_123 pasts_123 H locs hP hD hS ls (lv_sub hl [0, 1, 2, 4] rfl) hf
        · replace hf := ie hc22 hf
          refine lv_iconst (v := (1 : Int32)) hx hb dX8_shot_217 (by decide) ?_
          refine lv_goto (tgt := 222) hx hb dX8_shot_218 (by decide) ?_
          exact J222 y1_123 y2_123 y5_123 (1 : Int32) (551 : Int32) Z21 P_123 pasts_123 H locs hP hD hS ls (lv_sub hl [0, 1, 2, 4] rfl) hf
      · replace hf := ie hc16 hf
        refine lv_aload_n hx hb dX8_shot_130 rfl (lv_at hl 0 rfl) ?_
        refine va_get hx hb hts n8_ hown hK hP 0 rfl rfl 0 (Nat.le_of_ble_eq_true rfl) k1_ (fun _ h => h) rfl dX8_shot_131 ?_
        refine lv_sipush (v := (547 : Int32)) hx hb dX8_shot_134 (by decide) ?_
        refine lv_iload hx hb dX8_shot_137 (lv_at hl 5 rfl) ?_
        refine lv_iadd hx hb dX8_shot_139 ?_
        refine lv_aload_n hx hb dX8_shot_140 rfl (lv_at hl 0 rfl) ?_
        refine va_get hx hb hts n8_ hown hK hP 0 rfl rfl 0 (Nat.le_of_ble_eq_true rfl) k1_ (fun _ h => h) rfl dX8_shot_141 ?_
        refine lv_sipush (v := (547 : Int32)) hx hb dX8_shot_144 (by decide) ?_
        refine lv_iload hx hb dX8_shot_147 (lv_at hl 5 rfl) ?_
        refine lv_iadd hx hb dX8_shot_149 ?_
        refine lv_bipush (v := (7 : Int32)) hx hb dX8_shot_150 (by decide) ?_
        refine lv_isub hx hb dX8_shot_152 ?_
        obtain ⟨hg23, hf⟩ := gd_s hf
        refine va_iald hx hb hK hP 1 0 rfl rfl hg23 dX8_shot_153 ?_
        refine lv_topi (fun v24 ev24 => ?_)
        replace hf := lt_e ev24 hf
        obtain ⟨hg25, hf⟩ := gd_s hf
        refine x_iast hx hb hK hP hD hS 1 0 rfl rfl hg25 dX8_shot_154 (fun Z26 H locs eZ26 hP hD hS => ?_)
        replace hf := lt_e eZ26 hf
        have hP : va_P D vwCl (w_model cI cC b Z26 P_123 Hd Tr Tx told pasts_123 runs typed spot frm reas caus ords ordr) H := hP
        have hD : va_D AA (w_model cI cC b Z26 P_123 Hd Tr Tx told pasts_123 runs typed spot frm reas caus ords ordr) := hD
        obtain ⟨v27, ev27⟩ : ∃ z : Int32, z = y6_123 + (-1 : Int32) := ⟨_, rfl⟩
        replace hf := lt_e ev27 hf
        refine lv_iinc (v := v27) (lv' := [(6, .int v27), (0, .ref (b 0)), (1, .int y1_123), (2, .int y2_123), (3, .int y3_123), (5, .int y5_123)]) hx hb dX8_shot_155 hl (k := 5) rfl (by rw [ev27]; rfl) (by decide) rfl (fun ls hl => ?_)
        refine lv_goto (tgt := 123) hx hb dX8_shot_158 (by decide) ?_
        exact IH123 y1_123 y2_123 y3_123 y5_123 v27 Z26 P_123 pasts_123 H locs hP hD hS ls (lv_sub hl [1, 2, 3, 4, 5, 0] rfl) hf
  have J117 : ∀ (y1_117 : Int32) (y2_117 : Int32) (y3_117 : Int32) (z0_117 : Int32) (S_117 : Nat → Int32) (P_117 : Nat → Int32) (pasts_117 : Int32) (H : Heap) (locs : List Loc), va_P D vwCl (w_model cI cC b S_117 P_117 Hd Tr Tx told pasts_117 runs typed spot frm reas caus ords ordr) H → va_D AA (w_model cI cC b S_117 P_117 Hd Tr Tx told pasts_117 runs typed spot frm reas caus ords ordr) → va_S AA s.heap H locs → ∀ ls : Array Slot, lv_has ls 7 [(0, .ref (b 0)), (1, .int y1_117), (2, .int y2_117), (3, .int y3_117)] → f_X8_shot_J117 runs y1_117 y2_117 y3_117 z0_117 S_117 P_117 pasts_117 = some R → W p l e rmX8_shot s m args below meth c H locs 0 0 Q (F0 m 117 ls [.int z0_117]) := by
    intro y1_117 y2_117 y3_117 z0_117 S_117 P_117 pasts_117 H locs hP hD hS ls hl hf
    rw [f_X8_shot_J117] at hf
    refine lv_istore (lv' := [(5, .int z0_117), (0, .ref (b 0)), (1, .int y1_117), (2, .int y2_117), (3, .int y3_117)]) hx hb dX8_shot_117 hl (by decide) rfl (fun ls hl => ?_)
    refine lv_bipush (v := (83 : Int32)) hx hb dX8_shot_119 (by decide) ?_
    refine lv_istore (lv' := [(6, .int (83 : Int32)), (5, .int z0_117), (0, .ref (b 0)), (1, .int y1_117), (2, .int y2_117), (3, .int y3_117)]) hx hb dX8_shot_121 hl (by decide) rfl (fun ls hl => ?_)
    exact L123 FU y1_117 y2_117 y3_117 z0_117 (83 : Int32) S_117 P_117 pasts_117 H locs hP hD hS ls (lv_sub hl [2, 3, 4, 5, 1, 0] rfl) hf
  have L42 : ∀ n42 : Nat, ∀ (y1_42 : Int32) (y2_42 : Int32) (y3_42 : Int32) (y4_42 : Int32) (y5_42 : Int32) (S_42 : Nat → Int32) (P_42 : Nat → Int32) (pasts_42 : Int32) (H : Heap) (locs : List Loc), va_P D vwCl (w_model cI cC b S_42 P_42 Hd Tr Tx told pasts_42 runs typed spot frm reas caus ords ordr) H → va_D AA (w_model cI cC b S_42 P_42 Hd Tr Tx told pasts_42 runs typed spot frm reas caus ords ordr) → va_S AA s.heap H locs → ∀ ls : Array Slot, lv_has ls 7 [(0, .ref (b 0)), (1, .int y1_42), (2, .int y2_42), (3, .int y3_42), (4, .int y4_42), (5, .int y5_42)] → f_X8_shot_L42 runs y1_42 y2_42 n42 y3_42 y4_42 y5_42 S_42 P_42 pasts_42 = some R → W p l e rmX8_shot s m args below meth c H locs 0 0 Q (F0 m 42 ls []) := by
    intro n42
    induction n42 with
    | zero => intro y1_42 y2_42 y3_42 y4_42 y5_42 S_42 P_42 pasts_42 H locs hP hD hS ls hl hf; rw [f_X8_shot_L42] at hf; cases hf
    | succ n42 IH42 =>
      intro y1_42 y2_42 y3_42 y4_42 y5_42 S_42 P_42 pasts_42 H locs hP hD hS ls hl hf
      rw [f_X8_shot_L42] at hf
      refine lv_iload hx hb dX8_shot_42 (lv_at hl 5 rfl) ?_
      refine lv_aload_n hx hb dX8_shot_44 rfl (lv_at hl 0 rfl) ?_
      refine va_get hx hb hts n8_ hown hK hP 0 rfl rfl 0 (Nat.le_of_ble_eq_true rfl) k1_ (fun _ h => h) rfl dX8_shot_45 ?_
      refine lv_sipush (v := (145 : Int32)) hx hb dX8_shot_48 (by decide) ?_
      refine va_iald hx hb hK hP 1 0 rfl rfl (show ¬ ((145 : Int32) < 0 ∨ 631 ≤ (145 : Int32).toNatClampNeg) by decide) dX8_shot_51 ?_
      refine lv_icmp_ge (tgt := 104) hx hb dX8_shot_52 (by decide) (fun hc5 => ?_) (fun hc5 => ?_)
      · replace hf := it hc5 hf
        refine lv_iconst (v := (2 : Int32)) hx hb dX8_shot_104 (by decide) ?_
        refine lv_iload hx hb dX8_shot_105 (lv_at hl 4 rfl) ?_
        refine lv_imul hx hb dX8_shot_107 ?_
        refine lv_iload_n hx hb dX8_shot_108 rfl (lv_at hl 2 rfl) ?_
        refine lv_icmp_le (tgt := 116) hx hb dX8_shot_109 (by decide) (fun hc6 => ?_) (fun hc6 => ?_)
        · replace hf := it hc6 hf
          refine lv_iconst (v := (0 : Int32)) hx hb dX8_shot_116 (by decide) ?_
          exact J117 y1_42 y2_42 y3_42 (0 : Int32) S_42 P_42 pasts_42 H locs hP hD hS ls (lv_sub hl [0, 1, 2, 3] rfl) hf
        · replace hf := ie hc6 hf
          refine lv_iconst (v := (1 : Int32)) hx hb dX8_shot_112 (by decide) ?_
          refine lv_goto (tgt := 117) hx hb dX8_shot_113 (by decide) ?_
          exact J117 y1_42 y2_42 y3_42 (1 : Int32) S_42 P_42 pasts_42 H locs hP hD hS ls (lv_sub hl [0, 1, 2, 3] rfl) hf
      · replace hf := ie hc5 hf
        refine lv_aload_n hx hb dX8_shot_55 rfl (lv_at hl 0 rfl) ?_
        refine va_get hx hb hts n8_ hown hK hP 0 rfl rfl 0 (Nat.le_of_ble_eq_true rfl) k1_ (fun _ h => h) rfl dX8_shot_56 ?_
        refine lv_sipush (v := (146 : Int32)) hx hb dX8_shot_59 (by decide) ?_
        refine lv_iload hx hb dX8_shot_62 (lv_at hl 5 rfl) ?_
        refine lv_iadd hx hb dX8_shot_64 ?_
        obtain ⟨hg7, hf⟩ := gd_s hf
        refine va_iald hx hb hK hP 1 0 rfl rfl hg7 dX8_shot_65 ?_
        refine lv_topi (fun v8 ev8 => ?_)
        replace hf := lt_e ev8 hf
        refine lv_istore (lv' := [(6, .int v8), (0, .ref (b 0)), (1, .int y1_42), (2, .int y2_42), (3, .int y3_42), (4, .int y4_42), (5, .int y5_42)]) hx hb dX8_shot_66 hl (by decide) rfl (fun ls hl => ?_)
        refine lv_iload_n hx hb dX8_shot_68 rfl (lv_at hl 4 rfl) ?_
        refine lv_iload hx hb dX8_shot_69 (lv_at hl 0 rfl) ?_
        obtain ⟨q9, hq9, hf⟩ := ob hf
        refine cl_RS (As := [.int v8]) (rest := [.int y3_42]) hF hP hD (c_X8_kindOf v8 q9 hq9) (va_cwS 1 hts gX8_shot_X8_kindOf rfl rfl rfl (by decide +kernel) ⟨(Nat.le_of_ble_eq_true rfl), (Nat.le_of_ble_eq_true rfl)⟩) [] rfl (by decide +kernel) rfl rfl hl.1 (Nat.le_of_ble_eq_true rfl) dX8_shot_71 ⟨Nat.zero_le _, Nat.zero_le _⟩ ?_
        refine lv_iload hx hb dX8_shot_74 (lv_at hl 0 rfl) ?_
        obtain ⟨q10, hq10, hf⟩ := ob hf
        refine cl_RS (As := [.int v8]) (rest := [.int q9, .int y3_42]) hF hP hD (c_X8_amountOf v8 q10 hq10) (va_cwS 1 hts gX8_shot_X8_amountOf rfl rfl rfl (by decide +kernel) ⟨(Nat.le_of_ble_eq_true rfl), (Nat.le_of_ble_eq_true rfl)⟩) [] rfl (by decide +kernel) rfl rfl hl.1 (Nat.le_of_ble_eq_true rfl) dX8_shot_76 ⟨Nat.zero_le _, Nat.zero_le _⟩ ?_
        refine lv_imul hx hb dX8_shot_79 ?_
        refine lv_iadd hx hb dX8_shot_80 ?_
        refine lv_topi (fun v11 ev11 => ?_)
        replace hf := lt_e ev11 hf
        refine lv_istore_n (lv' := [(3, .int v11), (6, .int v8), (0, .ref (b 0)), (1, .int y1_42), (2, .int y2_42), (4, .int y4_42), (5, .int y5_42)]) hx hb dX8_shot_81 rfl hl (by decide) rfl (fun ls hl => ?_)
        refine lv_iload hx hb dX8_shot_82 (lv_at hl 5 rfl) ?_
        refine lv_iload hx hb dX8_shot_84 (lv_at hl 1 rfl) ?_
        obtain ⟨q12, hq12, hf⟩ := ob hf
        refine cl_RS (As := [.int v8]) (rest := [.int y4_42]) hF hP hD (c_X8_burrIn v8 q12 hq12) (va_cwS 1 hts gX8_shot_X8_burrIn rfl rfl rfl (by decide +kernel) ⟨(Nat.le_of_ble_eq_true rfl), (Nat.le_of_ble_eq_true rfl)⟩) [] rfl (by decide +kernel) rfl rfl hl.1 (Nat.le_of_ble_eq_true rfl) dX8_shot_86 ⟨Nat.zero_le _, Nat.zero_le _⟩ ?_
        refine lv_iload hx hb dX8_shot_89 (lv_at hl 1 rfl) ?_
        obtain ⟨q13, hq13, hf⟩ := ob hf
        refine cl_RS (As := [.int v8]) (rest := [.int q12, .int y4_42]) hF hP hD (c_X8_amountOf v8 q13 hq13) (va_cwS 1 hts gX8_shot_X8_amountOf rfl rfl rfl (by decide +kernel) ⟨(Nat.le_of_ble_eq_true rfl), (Nat.le_of_ble_eq_true rfl)⟩) [] rfl (by decide +kernel) rfl rfl hl.1 (Nat.le_of_ble_eq_true rfl) dX8_shot_91 ⟨Nat.zero_le _, Nat.zero_le _⟩ ?_
        refine lv_imul hx hb dX8_shot_94 ?_
        refine lv_iadd hx hb dX8_shot_95 ?_
        refine lv_topi (fun v14 ev14 => ?_)
        replace hf := lt_e ev14 hf
        refine lv_istore (lv' := [(4, .int v14), (3, .int v11), (6, .int v8), (0, .ref (b 0)), (1, .int y1_42), (2, .int y2_42), (5, .int y5_42)]) hx hb dX8_shot_96 hl (by decide) rfl (fun ls hl => ?_)
        obtain ⟨v15, ev15⟩ : ∃ z : Int32, z = y5_42 + (1 : Int32) := ⟨_, rfl⟩
        replace hf := lt_e ev15 hf
        refine lv_iinc (v := v15) (lv' := [(5, .int v15), (4, .int v14), (3, .int v11), (6, .int v8), (0, .ref (b 0)), (1, .int y1_42), (2, .int y2_42)]) hx hb dX8_shot_98 hl (k := 6) rfl (by rw [ev15]; rfl) (by decide) rfl (fun ls hl => ?_)
        refine lv_goto (tgt := 42) hx hb dX8_shot_101 (by decide) ?_
        exact IH42 y1_42 y2_42 v11 v14 v15 S_42 P_42 pasts_42 H locs hP hD hS ls (lv_sub hl [4, 5, 6, 2, 1, 0] rfl) hf
  rw [f_X8_shot] at hf
  obtain ⟨H, hH⟩ : ∃ z : Heap, z = s.heap := ⟨_, rfl⟩
  obtain ⟨locs, hL⟩ : ∃ z : List Loc, z = [] := ⟨_, rfl⟩
  replace hP := hH ▸ hP
  replace hS : va_S AA s.heap H locs := by rw [hH, hL]; exact hS
  suffices hgoal : W p l e rmX8_shot s m args below meth c H locs 0 0 Q (F0 m 0 ls []) by rw [hH, hL] at hgoal; exact hgoal
  clear hH hL
  refine lv_aload_n hx hb dX8_shot_0 rfl (lv_at hl 0 rfl) ?_
  refine va_get hx hb hts n8_ hown hK hP 0 rfl rfl 0 (Nat.le_of_ble_eq_true rfl) k1_ (fun _ h => h) rfl dX8_shot_1 ?_
  refine lv_sipush (v := (145 : Int32)) hx hb dX8_shot_4 (by decide) ?_
  refine va_iald hx hb hK hP 1 0 rfl rfl (show ¬ ((145 : Int32) < 0 ∨ 631 ≤ (145 : Int32).toNatClampNeg) by decide) dX8_shot_7 ?_
  refine lv_if_ne (tgt := 14) hx hb dX8_shot_8 (by decide) (fun hc1 => ?_) (fun hc1 => ?_)
  · replace hf := ie hc1 hf
    refine lv_aload_n hx hb dX8_shot_14 rfl (lv_at hl 0 rfl) ?_
    obtain ⟨q2, hq2, hf⟩ := ob hf
    refine cl_VV (W1 := (w_model cI cC b S q2.1 Hd Tr Tx told q2.2 runs typed spot frm reas caus ords ordr)) (As := []) (rest := []) hF hP hD hS (c_X8_changes b S P Hd Tr Tx told pasts runs typed spot frm reas caus ords ordr q2 hq2) (cwV 0 hts gX8_shot_X8_changes rfl rfl rfl (by decide +kernel) ⟨(Nat.le_of_ble_eq_true rfl), (Nat.le_of_ble_eq_true rfl)⟩) [0, 1, 2, 3, 4, 5, 6] rfl (by decide +kernel) (va_recv hK hP (ci := 8) (q0 := 0) rfl rfl) rfl rfl hl.1 (Nat.le_of_ble_eq_true rfl) dX8_shot_15 ⟨Nat.zero_le _, Nat.zero_le _⟩ (hA2 [(b 0), (b 1), (b 2), (b 3), (b 4), (b 5), (b 6)] rfl rfl) [] rfl [] rfl rfl (nW := 7) rfl (by decide +kernel) (fun H locs hP hD hS => ?_)
    refine lv_aload_n hx hb dX8_shot_18 rfl (lv_at hl 0 rfl) ?_
    obtain ⟨q3, hq3, hf⟩ := ob hf
    refine cl_RV (As := []) (rest := []) hF hP hD (c_X8_timeNow b S q2.1 Hd Tr Tx told q2.2 runs typed spot frm reas caus ords ordr q3 hq3) (cwV 0 hts gX8_shot_X8_timeNow rfl rfl rfl (by decide +kernel) ⟨(Nat.le_of_ble_eq_true rfl), (Nat.le_of_ble_eq_true rfl)⟩) [0, 1, 2, 3, 4, 5, 6] rfl (by decide +kernel) (va_recv hK hP (ci := 8) (q0 := 0) rfl rfl) rfl rfl hl.1 (Nat.le_of_ble_eq_true rfl) dX8_shot_19 ⟨Nat.zero_le _, Nat.zero_le _⟩ ?_
    refine lv_istore_n (lv' := [(1, .int q3), (0, .ref (b 0))]) hx hb dX8_shot_22 rfl hl (by decide) rfl (fun ls hl => ?_)
    refine lv_aload_n hx hb dX8_shot_23 rfl (lv_at hl 1 rfl) ?_
    refine lv_sipush (v := (145 : Int32)) hx hb dX8_shot_24 (by decide) ?_
    refine lv_sipush (v := (146 : Int32)) hx hb dX8_shot_27 (by decide) ?_
    obtain ⟨q4, hq4, hf⟩ := ob hf
    refine cl_RV (As := [.int (145 : Int32), .int (146 : Int32)]) (rest := []) hF hP hD (c_X8_amounts b (145 : Int32) (146 : Int32) S q2.1 Hd Tr Tx told q2.2 runs typed spot frm reas caus ords ordr q4 hq4) (cwV 2 hts gX8_shot_X8_amounts rfl rfl rfl (by decide +kernel) ⟨(Nat.le_of_ble_eq_true rfl), (Nat.le_of_ble_eq_true rfl)⟩) [0, 1, 2, 3, 4, 5, 6] rfl (by decide +kernel) (va_recv hK hP (ci := 8) (q0 := 0) rfl rfl) rfl rfl hl.1 (Nat.le_of_ble_eq_true rfl) dX8_shot_30 ⟨Nat.zero_le _, Nat.zero_le _⟩ ?_
    refine lv_istore_n (lv' := [(2, .int q4), (1, .int q3), (0, .ref (b 0))]) hx hb dX8_shot_33 rfl hl (by decide) rfl (fun ls hl => ?_)
    refine lv_iconst (v := (0 : Int32)) hx hb dX8_shot_34 (by decide) ?_
    refine lv_istore_n (lv' := [(3, .int (0 : Int32)), (2, .int q4), (1, .int q3), (0, .ref (b 0))]) hx hb dX8_shot_35 rfl hl (by decide) rfl (fun ls hl => ?_)
    refine lv_iconst (v := (0 : Int32)) hx hb dX8_shot_36 (by decide) ?_
    refine lv_istore (lv' := [(4, .int (0 : Int32)), (3, .int (0 : Int32)), (2, .int q4), (1, .int q3), (0, .ref (b 0))]) hx hb dX8_shot_37 hl (by decide) rfl (fun ls hl => ?_)
    refine lv_iconst (v := (0 : Int32)) hx hb dX8_shot_39 (by decide) ?_
    refine lv_istore (lv' := [(5, .int (0 : Int32)), (4, .int (0 : Int32)), (3, .int (0 : Int32)), (2, .int q4), (1, .int q3), (0, .ref (b 0))]) hx hb dX8_shot_40 hl (by decide) rfl (fun ls hl => ?_)
    exact L42 FU q3 q4 (0 : Int32) (0 : Int32) (0 : Int32) S q2.1 q2.2 H locs hP hD hS ls (lv_sub hl [5, 4, 3, 2, 1, 0] rfl) hf
  · replace hf := it hc1 hf
    refine lv_ldc hx hb hown k2_ dX8_shot_11 ?_
    obtain rfl := Option.some.inj hf
    exact ret 13 ls _ H locs dX8_shot_13 rfl rfl hP hS
end
