section
variable {l : Launch} {D : va_G} {cI cC : ClassId}
abbrev rmX8_purge : Room := { frames := 3, cells := 0, slots := 0, locals := 44 }
set_option maxHeartbeats 4000000 in
set_option maxRecDepth 100000 in
theorem c_X8_purge (b : Nat → Nat) (S : Nat → Int32) (P : Nat → Int32) (Hd : Nat → Int32) (Tr : Nat → Int32) (Tx : Nat → Int32) (told : Nat → Int32) (pasts : Int32) (runs : Int32) (typed : Int32) (spot : Int32) (frm : Int32) (reas : Int32) (caus : Int32) (ords : Int32) (ordr : Int32) (R : Int32 × (Nat → Int32) × (Nat → Int32) × Int32) (hf : f_X8_purge S P pasts runs = some R) : WrI l yX8_purge wsX8_purge rmX8_purge D cI cC (w_model cI cC b S P Hd Tr Tx told pasts runs typed spot frm reas caus ords ordr) (w_model cI cC b R.2.1 R.2.2.1 Hd Tr Tx told R.2.2.2 runs typed spot frm reas caus ords ordr) [.ref (b 0)] R.1 := by
  refine en_W (cc := cX8_purge) (n := 2) (by decide) rfl (Nat.le_of_ble_eq_true rfl) ?_
  intro p e s m args below meth c Q AA ls hx hb hml hown hts hK hN hP hD hS hl ret
  have hown : s.vm.findClass RX8 = some m.cls := hown
  have hF : FX p m c cX8_purge 2 s args wsX8_purge RX8 D cI cC := ⟨⟨hx, hb, hml, hown, hts⟩, hK, hN⟩
  have hl : lv_has ls 2 [(0, .ref (b 0))] := hl
  have k1_ := hts (.fieldLink RX8 7 "DriftGrindersModel" "s" "[I") (List.mem_of_getElem? (i := 1) rfl)
  have n8_ : ∀ w ∈ wsX80, w ∈ wsX8_purge := fun _ h => List.mem_cons_of_mem _ (List.mem_append_right _ h)
  rw [f_X8_purge] at hf
  obtain ⟨H, hH⟩ : ∃ z : Heap, z = s.heap := ⟨_, rfl⟩
  obtain ⟨locs, hL⟩ : ∃ z : List Loc, z = [] := ⟨_, rfl⟩
  replace hP := hH ▸ hP
  replace hS : va_S AA s.heap H locs := by rw [hH, hL]; exact hS
  suffices hgoal : W p l e rmX8_purge s m args below meth c H locs 0 0 Q (F0 m 0 ls []) by rw [hH, hL] at hgoal; exact hgoal
  clear hH hL
  refine lv_aload_n hx hb dX8_purge_0 rfl (lv_at hl 0 rfl) ?_
  obtain ⟨q1, hq1, hf⟩ := ob hf
  refine cl_VV (W1 := (w_model cI cC b S q1.1 Hd Tr Tx told q1.2 runs typed spot frm reas caus ords ordr)) (As := []) (rest := []) hF hP hD hS (c_X8_changes b S P Hd Tr Tx told pasts runs typed spot frm reas caus ords ordr q1 hq1) (cwV 0 hts gX8_purge_X8_changes rfl rfl rfl (by decide +kernel) ⟨(Nat.le_of_ble_eq_true rfl), (Nat.le_of_ble_eq_true rfl)⟩) [0, 1, 2, 3, 4, 5, 6] rfl (by decide +kernel) (va_recv hK hP (ci := 8) (q0 := 0) rfl rfl) rfl rfl hl.1 (Nat.le_of_ble_eq_true rfl) dX8_purge_1 ⟨Nat.zero_le _, Nat.zero_le _⟩ (hA2 [(b 0), (b 1), (b 2), (b 3), (b 4), (b 5), (b 6)] rfl rfl) [] rfl [] rfl rfl (nW := 7) rfl (by decide +kernel) (fun H locs hP hD hS => ?_)
  refine lv_aload_n hx hb dX8_purge_4 rfl (lv_at hl 0 rfl) ?_
  refine lv_bipush (v := (34 : Int32)) hx hb dX8_purge_5 (by decide) ?_
  refine lv_bipush (v := (35 : Int32)) hx hb dX8_purge_7 (by decide) ?_
  obtain ⟨q2, hq2, hf⟩ := ob hf
  refine cl_RV (As := [.int (34 : Int32), .int (35 : Int32)]) (rest := []) hF hP hD (c_X8_amounts b (34 : Int32) (35 : Int32) S q1.1 Hd Tr Tx told q1.2 runs typed spot frm reas caus ords ordr q2 hq2) (cwV 2 hts gX8_purge_X8_amounts rfl rfl rfl (by decide +kernel) ⟨(Nat.le_of_ble_eq_true rfl), (Nat.le_of_ble_eq_true rfl)⟩) [0, 1, 2, 3, 4, 5, 6] rfl (by decide +kernel) (va_recv hK hP (ci := 8) (q0 := 0) rfl rfl) rfl rfl hl.1 (Nat.le_of_ble_eq_true rfl) dX8_purge_9 ⟨Nat.zero_le _, Nat.zero_le _⟩ ?_
  refine lv_istore_n (lv' := [(1, .int q2), (0, .ref (b 0))]) hx hb dX8_purge_12 rfl hl (by decide) rfl (fun ls hl => ?_)
  refine lv_aload_n hx hb dX8_purge_13 rfl (lv_at hl 1 rfl) ?_
  refine va_get hx hb hts n8_ hown hK hP 0 rfl rfl 0 (Nat.le_of_ble_eq_true rfl) k1_ (fun _ h => h) rfl dX8_purge_14 ?_
  refine lv_iconst (v := (4 : Int32)) hx hb dX8_purge_17 (by decide) ?_
  refine lv_dup2_11 hx hb dX8_purge_18 rfl rfl ?_
  refine va_iald hx hb hK hP 1 0 rfl rfl (show ¬ ((4 : Int32) < 0 ∨ 631 ≤ (4 : Int32).toNatClampNeg) by decide) dX8_purge_19 ?_
  refine lv_iload_n hx hb dX8_purge_20 rfl (lv_at hl 0 rfl) ?_
  refine lv_iadd hx hb dX8_purge_21 ?_
  refine lv_topi (fun v3 ev3 => ?_)
  replace hf := lt_e ev3 hf
  refine x_iast hx hb hK hP hD hS 1 0 rfl rfl (show ¬ ((4 : Int32) < 0 ∨ 631 ≤ (4 : Int32).toNatClampNeg) by decide) dX8_purge_22 (fun Z4 H locs eZ4 hP hD hS => ?_)
  replace hf := lt_e eZ4 hf
  have hP : va_P D vwCl (w_model cI cC b Z4 q1.1 Hd Tr Tx told q1.2 runs typed spot frm reas caus ords ordr) H := hP
  have hD : va_D AA (w_model cI cC b Z4 q1.1 Hd Tr Tx told q1.2 runs typed spot frm reas caus ords ordr) := hD
  refine lv_aload_n hx hb dX8_purge_23 rfl (lv_at hl 1 rfl) ?_
  refine va_get hx hb hts n8_ hown hK hP 0 rfl rfl 0 (Nat.le_of_ble_eq_true rfl) k1_ (fun _ h => h) rfl dX8_purge_24 ?_
  refine lv_bipush (v := (34 : Int32)) hx hb dX8_purge_27 (by decide) ?_
  refine lv_iconst (v := (0 : Int32)) hx hb dX8_purge_29 (by decide) ?_
  refine x_iast hx hb hK hP hD hS 1 0 rfl rfl (show ¬ ((34 : Int32) < 0 ∨ 631 ≤ (34 : Int32).toNatClampNeg) by decide) dX8_purge_30 (fun Z5 H locs eZ5 hP hD hS => ?_)
  replace hf := lt_e eZ5 hf
  have hP : va_P D vwCl (w_model cI cC b Z5 q1.1 Hd Tr Tx told q1.2 runs typed spot frm reas caus ords ordr) H := hP
  have hD : va_D AA (w_model cI cC b Z5 q1.1 Hd Tr Tx told q1.2 runs typed spot frm reas caus ords ordr) := hD
  refine lv_iload_n hx hb dX8_purge_31 rfl (lv_at hl 0 rfl) ?_
  obtain rfl := Option.some.inj hf
  exact ret 32 ls _ H locs dX8_purge_32 rfl rfl hP hS
abbrev rmX8_correct : Room := { frames := 3, cells := 0, slots := 0, locals := 45 }
set_option maxHeartbeats 4000000 in
set_option maxRecDepth 100000 in
theorem c_X8_correct (b : Nat → Nat) (x1 : Int32) (S : Nat → Int32) (P : Nat → Int32) (Hd : Nat → Int32) (Tr : Nat → Int32) (Tx : Nat → Int32) (told : Nat → Int32) (pasts : Int32) (runs : Int32) (typed : Int32) (spot : Int32) (frm : Int32) (reas : Int32) (caus : Int32) (ords : Int32) (ordr : Int32) (R : Int32 × (Nat → Int32) × (Nat → Int32) × Int32) (hf : f_X8_correct x1 S P pasts runs = some R) : WrI l yX8_correct wsX8_correct rmX8_correct D cI cC (w_model cI cC b S P Hd Tr Tx told pasts runs typed spot frm reas caus ords ordr) (w_model cI cC b R.2.1 R.2.2.1 Hd Tr Tx told R.2.2.2 runs typed spot frm reas caus ords ordr) [.ref (b 0), .int x1] R.1 := by
  refine en_W (cc := cX8_correct) (n := 2) (by decide) rfl (Nat.le_of_ble_eq_true rfl) ?_
  intro p e s m args below meth c Q AA ls hx hb hml hown hts hK hN hP hD hS hl ret
  have hown : s.vm.findClass RX8 = some m.cls := hown
  have hF : FX p m c cX8_correct 2 s args wsX8_correct RX8 D cI cC := ⟨⟨hx, hb, hml, hown, hts⟩, hK, hN⟩
  have hl : lv_has ls 2 [(0, .ref (b 0)), (1, .int x1)] := hl
  have k1_ := hts (.constant RX8 64 (-1000001)) (List.mem_of_getElem? (i := 1) rfl)
  have k2_ := hts (.fieldLink RX8 7 "DriftGrindersModel" "s" "[I") (List.mem_of_getElem? (i := 2) rfl)
  have k3_ := hts (.constant RX8 79 (-1000002)) (List.mem_of_getElem? (i := 3) rfl)
  have n8_ : ∀ w ∈ wsX80, w ∈ wsX8_correct := fun _ h => List.mem_cons_of_mem _ (List.mem_append_right _ h)
  rw [f_X8_correct] at hf
  obtain ⟨H, hH⟩ : ∃ z : Heap, z = s.heap := ⟨_, rfl⟩
  obtain ⟨locs, hL⟩ : ∃ z : List Loc, z = [] := ⟨_, rfl⟩
  replace hP := hH ▸ hP
  replace hS : va_S AA s.heap H locs := by rw [hH, hL]; exact hS
  suffices hgoal : W p l e rmX8_correct s m args below meth c H locs 0 0 Q (F0 m 0 ls []) by rw [hH, hL] at hgoal; exact hgoal
  clear hH hL
  refine lv_iload_n hx hb dX8_correct_0 rfl (lv_at hl 1 rfl) ?_
  obtain ⟨q1, hq1, hf⟩ := ob hf
  refine cl_RS (As := [.int x1]) (rest := []) hF hP hD (c_X8_isOne x1 q1 hq1) (va_cwS 1 hts gX8_correct_X8_isOne rfl rfl rfl (by decide +kernel) ⟨(Nat.le_of_ble_eq_true rfl), (Nat.le_of_ble_eq_true rfl)⟩) [] rfl (by decide +kernel) rfl rfl hl.1 (Nat.le_of_ble_eq_true rfl) dX8_correct_1 ⟨Nat.zero_le _, Nat.zero_le _⟩ ?_
  refine lv_if_ne (tgt := 10) hx hb dX8_correct_4 (by decide) (fun hc2 => ?_) (fun hc2 => ?_)
  · replace hf := ie hc2 hf
    refine lv_aload_n hx hb dX8_correct_10 rfl (lv_at hl 0 rfl) ?_
    refine va_get hx hb hts n8_ hown hK hP 0 rfl rfl 0 (Nat.le_of_ble_eq_true rfl) k2_ (fun _ h => h) rfl dX8_correct_11 ?_
    refine lv_sipush (v := (546 : Int32)) hx hb dX8_correct_14 (by decide) ?_
    refine va_iald hx hb hK hP 1 0 rfl rfl (show ¬ ((546 : Int32) < 0 ∨ 631 ≤ (546 : Int32).toNatClampNeg) by decide) dX8_correct_17 ?_
    refine lv_if_ne (tgt := 24) hx hb dX8_correct_18 (by decide) (fun hc3 => ?_) (fun hc3 => ?_)
    · replace hf := ie hc3 hf
      refine lv_aload_n hx hb dX8_correct_24 rfl (lv_at hl 0 rfl) ?_
      obtain ⟨q4, hq4, hf⟩ := ob hf
      refine cl_VV (W1 := (w_model cI cC b S q4.1 Hd Tr Tx told q4.2 runs typed spot frm reas caus ords ordr)) (As := []) (rest := []) hF hP hD hS (c_X8_changes b S P Hd Tr Tx told pasts runs typed spot frm reas caus ords ordr q4 hq4) (cwV 0 hts gX8_correct_X8_changes rfl rfl rfl (by decide +kernel) ⟨(Nat.le_of_ble_eq_true rfl), (Nat.le_of_ble_eq_true rfl)⟩) [0, 1, 2, 3, 4, 5, 6] rfl (by decide +kernel) (va_recv hK hP (ci := 8) (q0 := 0) rfl rfl) rfl rfl hl.1 (Nat.le_of_ble_eq_true rfl) dX8_correct_25 ⟨Nat.zero_le _, Nat.zero_le _⟩ (hA2 [(b 0), (b 1), (b 2), (b 3), (b 4), (b 5), (b 6)] rfl rfl) [] rfl [] rfl rfl (nW := 7) rfl (by decide +kernel) (fun H locs hP hD hS => ?_)
      refine lv_aload_n hx hb dX8_correct_28 rfl (lv_at hl 0 rfl) ?_
      refine lv_iload_n hx hb dX8_correct_29 rfl (lv_at hl 1 rfl) ?_
      refine lv_aload_n hx hb dX8_correct_30 rfl (lv_at hl 0 rfl) ?_
      refine va_get hx hb hts n8_ hown hK hP 0 rfl rfl 0 (Nat.le_of_ble_eq_true rfl) k2_ (fun _ h => h) rfl dX8_correct_31 ?_
      refine lv_sipush (v := (548 : Int32)) hx hb dX8_correct_34 (by decide) ?_
      refine va_iald hx hb hK hP 1 0 rfl rfl (show ¬ ((548 : Int32) < 0 ∨ 631 ≤ (548 : Int32).toNatClampNeg) by decide) dX8_correct_37 ?_
      obtain ⟨q5, hq5, hf⟩ := ob hf
      refine cl_VV (W1 := (w_model cI cC b q5 q4.1 Hd Tr Tx told q4.2 runs typed spot frm reas caus ords ordr)) (As := [.int x1, .int (S (548 : Int32).toNatClampNeg)]) (rest := []) hF hP hD hS (c_X8_corrects b x1 (S (548 : Int32).toNatClampNeg) S q4.1 Hd Tr Tx told q4.2 runs typed spot frm reas caus ords ordr q5 hq5) (cwV 2 hts gX8_correct_X8_corrects rfl rfl rfl (by decide +kernel) ⟨(Nat.le_of_ble_eq_true rfl), (Nat.le_of_ble_eq_true rfl)⟩) [0, 1, 2, 3, 4, 5, 6] rfl (by decide +kernel) (va_recv hK hP (ci := 8) (q0 := 0) rfl rfl) rfl rfl hl.1 (Nat.le_of_ble_eq_true rfl) dX8_correct_38 ⟨Nat.zero_le _, Nat.zero_le _⟩ (hA2 [(b 0), (b 1), (b 2), (b 3), (b 4), (b 5), (b 6)] rfl rfl) [] rfl [] rfl rfl (nW := 7) rfl (by decide +kernel) (fun H locs hP hD hS => ?_)
      refine lv_aload_n hx hb dX8_correct_41 rfl (lv_at hl 0 rfl) ?_
      refine lv_iload_n hx hb dX8_correct_42 rfl (lv_at hl 1 rfl) ?_
      refine lv_iconst (v := (0 : Int32)) hx hb dX8_correct_43 (by decide) ?_
      obtain ⟨q6, hq6, hf⟩ := ob hf
      refine cl_RV (As := [.int x1, .int (0 : Int32)]) (rest := []) hF hP hD (c_X8_ofBurr b x1 (0 : Int32) q5 q4.1 Hd Tr Tx told q4.2 runs typed spot frm reas caus ords ordr q6 hq6) (cwV 2 hts gX8_correct_X8_ofBurr rfl rfl rfl (by decide +kernel) ⟨(Nat.le_of_ble_eq_true rfl), (Nat.le_of_ble_eq_true rfl)⟩) [0, 1, 2, 3, 4, 5, 6] rfl (by decide +kernel) (va_recv hK hP (ci := 8) (q0 := 0) rfl rfl) rfl rfl hl.1 (Nat.le_of_ble_eq_true rfl) dX8_correct_44 ⟨Nat.zero_le _, Nat.zero_le _⟩ ?_
      obtain rfl := Option.some.inj hf
      exact ret 47 ls _ H locs dX8_correct_47 rfl rfl hP hS
    · replace hf := it hc3 hf
      refine lv_ldc hx hb hown k3_ dX8_correct_21 ?_
      obtain rfl := Option.some.inj hf
      exact ret 23 ls _ H locs dX8_correct_23 rfl rfl hP hS
  · replace hf := it hc2 hf
    refine lv_ldc hx hb hown k1_ dX8_correct_7 ?_
    obtain rfl := Option.some.inj hf
    exact ret 9 ls _ H locs dX8_correct_9 rfl rfl hP hS
abbrev rmX8_set : Room := { frames := 2, cells := 0, slots := 0, locals := 22 }
set_option maxHeartbeats 4000000 in
set_option maxRecDepth 100000 in
theorem c_X8_set (b : Nat → Nat) (x1 : Int32) (x2 : Int32) (S : Nat → Int32) (P : Nat → Int32) (Hd : Nat → Int32) (Tr : Nat → Int32) (Tx : Nat → Int32) (told : Nat → Int32) (pasts : Int32) (runs : Int32) (typed : Int32) (spot : Int32) (frm : Int32) (reas : Int32) (caus : Int32) (ords : Int32) (ordr : Int32) (R : Int32 × (Nat → Int32) × (Nat → Int32) × Int32) (hf : f_X8_set x1 x2 S P pasts runs = some R) : WrI l yX8_set wsX8_set rmX8_set D cI cC (w_model cI cC b S P Hd Tr Tx told pasts runs typed spot frm reas caus ords ordr) (w_model cI cC b R.2.1 R.2.2.1 Hd Tr Tx told R.2.2.2 runs typed spot frm reas caus ords ordr) [.ref (b 0), .int x1, .int x2] R.1 := by
  refine en_W (cc := cX8_set) (n := 4) (by decide) rfl (Nat.le_of_ble_eq_true rfl) ?_
  intro p e s m args below meth c Q AA ls hx hb hml hown hts hK hN hP hD hS hl ret
  have hown : s.vm.findClass RX8 = some m.cls := hown
  have hF : FX p m c cX8_set 4 s args wsX8_set RX8 D cI cC := ⟨⟨hx, hb, hml, hown, hts⟩, hK, hN⟩
  have hl : lv_has ls 4 [(0, .ref (b 0)), (1, .int x1), (2, .int x2)] := hl
  have k1_ := hts (.constant RX8 64 (-1000001)) (List.mem_of_getElem? (i := 1) rfl)
  have k2_ := hts (.fieldLink RX8 7 "DriftGrindersModel" "s" "[I") (List.mem_of_getElem? (i := 2) rfl)
  have n8_ : ∀ w ∈ wsX80, w ∈ wsX8_set := fun _ h => List.mem_cons_of_mem _ (List.mem_append_right _ h)
  rw [f_X8_set] at hf
  obtain ⟨H, hH⟩ : ∃ z : Heap, z = s.heap := ⟨_, rfl⟩
  obtain ⟨locs, hL⟩ : ∃ z : List Loc, z = [] := ⟨_, rfl⟩
  replace hP := hH ▸ hP
  replace hS : va_S AA s.heap H locs := by rw [hH, hL]; exact hS
  suffices hgoal : W p l e rmX8_set s m args below meth c H locs 0 0 Q (F0 m 0 ls []) by rw [hH, hL] at hgoal; exact hgoal
  clear hH hL
  refine lv_iload_n hx hb dX8_set_0 rfl (lv_at hl 1 rfl) ?_
  refine lv_iconst (v := (0 : Int32)) hx hb dX8_set_1 (by decide) ?_
  refine lv_iconst (v := (5 : Int32)) hx hb dX8_set_2 (by decide) ?_
  obtain ⟨q1, hq1, hf⟩ := ob hf
  refine cl_RS (As := [.int x1, .int (0 : Int32), .int (5 : Int32)]) (rest := []) hF hP hD (c_X8_in x1 (0 : Int32) (5 : Int32) q1 hq1) (va_cwS 3 hts gX8_set_X8_in rfl rfl rfl (by decide +kernel) ⟨(Nat.le_of_ble_eq_true rfl), (Nat.le_of_ble_eq_true rfl)⟩) [] rfl (by decide +kernel) rfl rfl hl.1 (Nat.le_of_ble_eq_true rfl) dX8_set_3 ⟨Nat.zero_le _, Nat.zero_le _⟩ ?_
  refine lv_if_eq (tgt := 24) hx hb dX8_set_6 (by decide) (fun hc2 => ?_) (fun hc2 => ?_)
  · replace hf := it hc2 hf
    refine lv_ldc hx hb hown k1_ dX8_set_24 ?_
    obtain rfl := Option.some.inj hf
    exact ret 26 ls _ H locs dX8_set_26 rfl rfl hP hS
  · replace hf := ie hc2 hf
    refine lv_iload_n hx hb dX8_set_9 rfl (lv_at hl 2 rfl) ?_
    refine lv_iload_n hx hb dX8_set_10 rfl (lv_at hl 1 rfl) ?_
    obtain ⟨q3, hq3, hf⟩ := ob hf
    refine cl_RS (As := [.int x1]) (rest := [.int x2]) hF hP hD (c_X8_leastOf x1 q3 hq3) (va_cwS 1 hts gX8_set_X8_leastOf rfl rfl rfl (by decide +kernel) ⟨(Nat.le_of_ble_eq_true rfl), (Nat.le_of_ble_eq_true rfl)⟩) [] rfl (by decide +kernel) rfl rfl hl.1 (Nat.le_of_ble_eq_true rfl) dX8_set_11 ⟨Nat.zero_le _, Nat.zero_le _⟩ ?_
    refine lv_iload_n hx hb dX8_set_14 rfl (lv_at hl 1 rfl) ?_
    obtain ⟨q4, hq4, hf⟩ := ob hf
    refine cl_RS (As := [.int x1]) (rest := [.int q3, .int x2]) hF hP hD (c_X8_mostOf x1 q4 hq4) (va_cwS 1 hts gX8_set_X8_mostOf rfl rfl rfl (by decide +kernel) ⟨(Nat.le_of_ble_eq_true rfl), (Nat.le_of_ble_eq_true rfl)⟩) [] rfl (by decide +kernel) rfl rfl hl.1 (Nat.le_of_ble_eq_true rfl) dX8_set_15 ⟨Nat.zero_le _, Nat.zero_le _⟩ ?_
    obtain ⟨q5, hq5, hf⟩ := ob hf
    refine cl_RS (As := [.int x2, .int q3, .int q4]) (rest := []) hF hP hD (c_X8_in x2 q3 q4 q5 hq5) (va_cwS 3 hts gX8_set_X8_in rfl rfl rfl (by decide +kernel) ⟨(Nat.le_of_ble_eq_true rfl), (Nat.le_of_ble_eq_true rfl)⟩) [] rfl (by decide +kernel) rfl rfl hl.1 (Nat.le_of_ble_eq_true rfl) dX8_set_18 ⟨Nat.zero_le _, Nat.zero_le _⟩ ?_
    refine lv_if_ne (tgt := 27) hx hb dX8_set_21 (by decide) (fun hc6 => ?_) (fun hc6 => ?_)
    · replace hf := ie hc6 hf
      refine lv_aload_n hx hb dX8_set_27 rfl (lv_at hl 0 rfl) ?_
      obtain ⟨q7, hq7, hf⟩ := ob hf
      refine cl_VV (W1 := (w_model cI cC b S q7.1 Hd Tr Tx told q7.2 runs typed spot frm reas caus ords ordr)) (As := []) (rest := []) hF hP hD hS (c_X8_changes b S P Hd Tr Tx told pasts runs typed spot frm reas caus ords ordr q7 hq7) (cwV 0 hts gX8_set_X8_changes rfl rfl rfl (by decide +kernel) ⟨(Nat.le_of_ble_eq_true rfl), (Nat.le_of_ble_eq_true rfl)⟩) [0, 1, 2, 3, 4, 5, 6] rfl (by decide +kernel) (va_recv hK hP (ci := 8) (q0 := 0) rfl rfl) rfl rfl hl.1 (Nat.le_of_ble_eq_true rfl) dX8_set_28 ⟨Nat.zero_le _, Nat.zero_le _⟩ (hA2 [(b 0), (b 1), (b 2), (b 3), (b 4), (b 5), (b 6)] rfl rfl) [] rfl [] rfl rfl (nW := 7) rfl (by decide +kernel) (fun H locs hP hD hS => ?_)
      refine lv_aload_n hx hb dX8_set_31 rfl (lv_at hl 0 rfl) ?_
      refine va_get hx hb hts n8_ hown hK hP 0 rfl rfl 0 (Nat.le_of_ble_eq_true rfl) k2_ (fun _ h => h) rfl dX8_set_32 ?_
      refine lv_bipush (v := (7 : Int32)) hx hb dX8_set_35 (by decide) ?_
      refine lv_iload_n hx hb dX8_set_37 rfl (lv_at hl 1 rfl) ?_
      refine lv_iadd hx hb dX8_set_38 ?_
      obtain ⟨hg8, hf⟩ := gd_s hf
      refine va_iald hx hb hK hP 1 0 rfl rfl hg8 dX8_set_39 ?_
      refine lv_topi (fun v9 ev9 => ?_)
      replace hf := lt_e ev9 hf
      refine lv_istore_n (lv' := [(3, .int v9), (0, .ref (b 0)), (1, .int x1), (2, .int x2)]) hx hb dX8_set_40 rfl hl (by decide) rfl (fun ls hl => ?_)
      refine lv_aload_n hx hb dX8_set_41 rfl (lv_at hl 1 rfl) ?_
      refine va_get hx hb hts n8_ hown hK hP 0 rfl rfl 0 (Nat.le_of_ble_eq_true rfl) k2_ (fun _ h => h) rfl dX8_set_42 ?_
      refine lv_bipush (v := (7 : Int32)) hx hb dX8_set_45 (by decide) ?_
      refine lv_iload_n hx hb dX8_set_47 rfl (lv_at hl 2 rfl) ?_
      refine lv_iadd hx hb dX8_set_48 ?_
      refine lv_iload_n hx hb dX8_set_49 rfl (lv_at hl 3 rfl) ?_
      obtain ⟨hg10, hf⟩ := gd_s hf
      refine x_iast hx hb hK hP hD hS 1 0 rfl rfl hg10 dX8_set_50 (fun Z11 H locs eZ11 hP hD hS => ?_)
      replace hf := lt_e eZ11 hf
      have hP : va_P D vwCl (w_model cI cC b Z11 q7.1 Hd Tr Tx told q7.2 runs typed spot frm reas caus ords ordr) H := hP
      have hD : va_D AA (w_model cI cC b Z11 q7.1 Hd Tr Tx told q7.2 runs typed spot frm reas caus ords ordr) := hD
      refine lv_iload_n hx hb dX8_set_51 rfl (lv_at hl 0 rfl) ?_
      obtain rfl := Option.some.inj hf
      exact ret 52 ls _ H locs dX8_set_52 rfl rfl hP hS
    · replace hf := it hc6 hf
      refine lv_ldc hx hb hown k1_ dX8_set_24 ?_
      obtain rfl := Option.some.inj hf
      exact ret 26 ls _ H locs dX8_set_26 rfl rfl hP hS
abbrev rmX8_burrOf : Room := { frames := 3, cells := 0, slots := 0, locals := 43 }
set_option maxHeartbeats 4000000 in
set_option maxRecDepth 100000 in
theorem c_X8_burrOf (b : Nat → Nat) (x1 : Int32) (x2 : Int32) (S : Nat → Int32) (P : Nat → Int32) (Hd : Nat → Int32) (Tr : Nat → Int32) (Tx : Nat → Int32) (told : Nat → Int32) (pasts : Int32) (runs : Int32) (typed : Int32) (spot : Int32) (frm : Int32) (reas : Int32) (caus : Int32) (ords : Int32) (ordr : Int32) (R : Int32) (hf : f_X8_burrOf x1 x2 S = some R) : RdI l yX8_burrOf wsX8_burrOf rmX8_burrOf D cI cC (w_model cI cC b S P Hd Tr Tx told pasts runs typed spot frm reas caus ords ordr) [.ref (b 0), .int x1, .int x2] R := by
  refine en_R (cc := cX8_burrOf) (n := 3) (by decide) rfl (Nat.le_of_ble_eq_true rfl) ?_
  intro p e s m args below meth c Q AA ls hx hb hml hown hts hK hN hP hD hl ret
  have hown : s.vm.findClass RX8 = some m.cls := hown
  have hF : FX p m c cX8_burrOf 3 s args wsX8_burrOf RX8 D cI cC := ⟨⟨hx, hb, hml, hown, hts⟩, hK, hN⟩
  have hl : lv_has ls 3 [(0, .ref (b 0)), (1, .int x1), (2, .int x2)] := hl
  have k1_ := hts (.constant RX8 64 (-1000001)) (List.mem_of_getElem? (i := 1) rfl)
  have J46 : ∀ (z0_46 : Int32) (z1_46 : Int32), ∀ ls : Array Slot, lv_has ls 3 [] → f_X8_burrOf_J46 S z0_46 z1_46 = some R → W p l e rmX8_burrOf s m args below meth c s.heap [] 0 0 Q (F0 m 46 ls [.int z0_46, .int z1_46, .ref (b 0)]) := by
    intro z0_46 z1_46 ls hl hf
    rw [f_X8_burrOf_J46] at hf
    obtain ⟨q8, hq8, hf⟩ := ob hf
    refine cl_RV (As := [.int z1_46, .int z0_46]) (rest := []) hF hP hD (c_X8_ofBurr b z1_46 z0_46 S P Hd Tr Tx told pasts runs typed spot frm reas caus ords ordr q8 hq8) (cwV 2 hts gX8_burrOf_X8_ofBurr rfl rfl rfl (by decide +kernel) ⟨(Nat.le_of_ble_eq_true rfl), (Nat.le_of_ble_eq_true rfl)⟩) [0, 1, 2, 3, 4, 5, 6] rfl (by decide +kernel) (va_recv hK hP (ci := 8) (q0 := 0) rfl rfl) rfl rfl hl.1 (Nat.le_of_ble_eq_true rfl) dX8_burrOf_46 ⟨Nat.zero_le _, Nat.zero_le _⟩ ?_
    obtain rfl := Option.some.inj hf
    exact ret 49 ls _ dX8_burrOf_49 rfl rfl
  rw [f_X8_burrOf] at hf
  refine lv_iload_n hx hb dX8_burrOf_0 rfl (lv_at hl 1 rfl) ?_
  obtain ⟨q1, hq1, hf⟩ := ob hf
  refine cl_RS (As := [.int x1]) (rest := []) hF hP hD (c_X8_isOne x1 q1 hq1) (va_cwS 1 hts gX8_burrOf_X8_isOne rfl rfl rfl (by decide +kernel) ⟨(Nat.le_of_ble_eq_true rfl), (Nat.le_of_ble_eq_true rfl)⟩) [] rfl (by decide +kernel) rfl rfl hl.1 (Nat.le_of_ble_eq_true rfl) dX8_burrOf_1 ⟨Nat.zero_le _, Nat.zero_le _⟩ ?_
  refine lv_if_eq (tgt := 16) hx hb dX8_burrOf_4 (by decide) (fun hc2 => ?_) (fun hc2 => ?_)
  · replace hf := it hc2 hf
    refine lv_ldc hx hb hown k1_ dX8_burrOf_16 ?_
    obtain rfl := Option.some.inj hf
    exact ret 18 ls _ dX8_burrOf_18 rfl rfl
  · replace hf := ie hc2 hf
    refine lv_iload_n hx hb dX8_burrOf_7 rfl (lv_at hl 2 rfl) ?_
    refine lv_iconst (v := (0 : Int32)) hx hb dX8_burrOf_8 (by decide) ?_
    refine lv_iconst (v := (4 : Int32)) hx hb dX8_burrOf_9 (by decide) ?_
    obtain ⟨q3, hq3, hf⟩ := ob hf
    refine cl_RS (As := [.int x2, .int (0 : Int32), .int (4 : Int32)]) (rest := []) hF hP hD (c_X8_in x2 (0 : Int32) (4 : Int32) q3 hq3) (va_cwS 3 hts gX8_burrOf_X8_in rfl rfl rfl (by decide +kernel) ⟨(Nat.le_of_ble_eq_true rfl), (Nat.le_of_ble_eq_true rfl)⟩) [] rfl (by decide +kernel) rfl rfl hl.1 (Nat.le_of_ble_eq_true rfl) dX8_burrOf_10 ⟨Nat.zero_le _, Nat.zero_le _⟩ ?_
    refine lv_if_ne (tgt := 19) hx hb dX8_burrOf_13 (by decide) (fun hc4 => ?_) (fun hc4 => ?_)
    · replace hf := ie hc4 hf
      refine lv_iload_n hx hb dX8_burrOf_19 rfl (lv_at hl 2 rfl) ?_
      refine lv_iconst (v := (2 : Int32)) hx hb dX8_burrOf_20 (by decide) ?_
      refine lv_icmp_ne (tgt := 32) hx hb dX8_burrOf_21 (by decide) (fun hc5 => ?_) (fun hc5 => ?_)
      · replace hf := ie hc5 hf
        refine lv_aload_n hx hb dX8_burrOf_32 rfl (lv_at hl 0 rfl) ?_
        refine lv_iload_n hx hb dX8_burrOf_33 rfl (lv_at hl 1 rfl) ?_
        refine lv_iload_n hx hb dX8_burrOf_34 rfl (lv_at hl 2 rfl) ?_
        refine lv_iconst (v := (2 : Int32)) hx hb dX8_burrOf_35 (by decide) ?_
        refine lv_icmp_ge (tgt := 43) hx hb dX8_burrOf_36 (by decide) (fun hc6 => ?_) (fun hc6 => ?_)
        · replace hf := it hc6 hf
          refine lv_iload_n hx hb dX8_burrOf_43 rfl (lv_at hl 2 rfl) ?_
          refine lv_iconst (v := (1 : Int32)) hx hb dX8_burrOf_44 (by decide) ?_
          refine lv_isub hx hb dX8_burrOf_45 ?_
          exact J46 (x2 - (1 : Int32)) x1 ls (lv_sub hl [] rfl) hf
        · replace hf := ie hc6 hf
          refine lv_iload_n hx hb dX8_burrOf_39 rfl (lv_at hl 2 rfl) ?_
          refine lv_goto (tgt := 46) hx hb dX8_burrOf_40 (by decide) ?_
          exact J46 x2 x1 ls (lv_sub hl [] rfl) hf
      · replace hf := it hc5 hf
        refine lv_aload_n hx hb dX8_burrOf_24 rfl (lv_at hl 0 rfl) ?_
        refine lv_iload_n hx hb dX8_burrOf_25 rfl (lv_at hl 1 rfl) ?_
        obtain ⟨q7, hq7, hf⟩ := ob hf
        refine cl_RV (As := [.int x1]) (rest := []) hF hP hD (c_X8_gap b x1 S P Hd Tr Tx told pasts runs typed spot frm reas caus ords ordr q7 hq7) (cwV 1 hts gX8_burrOf_X8_gap rfl rfl rfl (by decide +kernel) ⟨(Nat.le_of_ble_eq_true rfl), (Nat.le_of_ble_eq_true rfl)⟩) [0, 1, 2, 3, 4, 5, 6] rfl (by decide +kernel) (va_recv hK hP (ci := 8) (q0 := 0) rfl rfl) rfl rfl hl.1 (Nat.le_of_ble_eq_true rfl) dX8_burrOf_26 ⟨Nat.zero_le _, Nat.zero_le _⟩ ?_
        refine lv_goto (tgt := 49) hx hb dX8_burrOf_29 (by decide) ?_
        obtain rfl := Option.some.inj hf
        exact ret 49 ls _ dX8_burrOf_49 rfl rfl
    · replace hf := it hc4 hf
      refine lv_ldc hx hb hown k1_ dX8_burrOf_16 ?_
      obtain rfl := Option.some.inj hf
      exact ret 18 ls _ dX8_burrOf_18 rfl rfl
abbrev rmX8_lotOf : Room := { frames := 3, cells := 0, slots := 0, locals := 42 }
set_option maxHeartbeats 4000000 in
set_option maxRecDepth 100000 in
theorem c_X8_lotOf (b : Nat → Nat) (x1 : Int32) (x2 : Int32) (S : Nat → Int32) (P : Nat → Int32) (Hd : Nat → Int32) (Tr : Nat → Int32) (Tx : Nat → Int32) (told : Nat → Int32) (pasts : Int32) (runs : Int32) (typed : Int32) (spot : Int32) (frm : Int32) (reas : Int32) (caus : Int32) (ords : Int32) (ordr : Int32) (R : Int32) (hf : f_X8_lotOf x1 x2 S = some R) : RdI l yX8_lotOf wsX8_lotOf rmX8_lotOf D cI cC (w_model cI cC b S P Hd Tr Tx told pasts runs typed spot frm reas caus ords ordr) [.ref (b 0), .int x1, .int x2] R := by
  refine en_R (cc := cX8_lotOf) (n := 3) (by decide) rfl (Nat.le_of_ble_eq_true rfl) ?_
  intro p e s m args below meth c Q AA ls hx hb hml hown hts hK hN hP hD hl ret
  have hown : s.vm.findClass RX8 = some m.cls := hown
  have hF : FX p m c cX8_lotOf 3 s args wsX8_lotOf RX8 D cI cC := ⟨⟨hx, hb, hml, hown, hts⟩, hK, hN⟩
  have hl : lv_has ls 3 [(0, .ref (b 0)), (1, .int x1), (2, .int x2)] := hl
  have k1_ := hts (.constant RX8 64 (-1000001)) (List.mem_of_getElem? (i := 1) rfl)
  have k2_ := hts (.fieldLink RX8 7 "DriftGrindersModel" "s" "[I") (List.mem_of_getElem? (i := 2) rfl)
  have k3_ := hts (.constant RX8 96 (-1000004)) (List.mem_of_getElem? (i := 3) rfl)
  have n8_ : ∀ w ∈ wsX80, w ∈ wsX8_lotOf := fun _ h => List.mem_cons_of_mem _ (List.mem_append_right _ h)
  rw [f_X8_lotOf] at hf
  refine lv_iload_n hx hb dX8_lotOf_0 rfl (lv_at hl 1 rfl) ?_
  refine lv_if_lt (tgt := 11) hx hb dX8_lotOf_1 (by decide) (fun hc1 => ?_) (fun hc1 => ?_)
  · replace hf := it hc1 hf
    refine lv_ldc hx hb hown k1_ dX8_lotOf_11 ?_
    obtain rfl := Option.some.inj hf
    exact ret 13 ls _ dX8_lotOf_13 rfl rfl
  · replace hf := ie hc1 hf
    refine lv_iload_n hx hb dX8_lotOf_4 rfl (lv_at hl 2 rfl) ?_
    obtain ⟨q2, hq2, hf⟩ := ob hf
    refine cl_RS (As := [.int x2]) (rest := []) hF hP hD (c_X8_isOne x2 q2 hq2) (va_cwS 1 hts gX8_lotOf_X8_isOne rfl rfl rfl (by decide +kernel) ⟨(Nat.le_of_ble_eq_true rfl), (Nat.le_of_ble_eq_true rfl)⟩) [] rfl (by decide +kernel) rfl rfl hl.1 (Nat.le_of_ble_eq_true rfl) dX8_lotOf_5 ⟨Nat.zero_le _, Nat.zero_le _⟩ ?_
    refine lv_if_ne (tgt := 14) hx hb dX8_lotOf_8 (by decide) (fun hc3 => ?_) (fun hc3 => ?_)
    · replace hf := ie hc3 hf
      refine lv_iload_n hx hb dX8_lotOf_14 rfl (lv_at hl 1 rfl) ?_
      refine lv_aload_n hx hb dX8_lotOf_15 rfl (lv_at hl 0 rfl) ?_
      refine va_get hx hb hts n8_ hown hK hP 0 rfl rfl 0 (Nat.le_of_ble_eq_true rfl) k2_ (fun _ h => h) rfl dX8_lotOf_16 ?_
      refine lv_bipush (v := (21 : Int32)) hx hb dX8_lotOf_19 (by decide) ?_
      refine va_iald hx hb hK hP 1 0 rfl rfl (show ¬ ((21 : Int32) < 0 ∨ 631 ≤ (21 : Int32).toNatClampNeg) by decide) dX8_lotOf_21 ?_
      refine lv_icmp_lt (tgt := 30) hx hb dX8_lotOf_22 (by decide) (fun hc4 => ?_) (fun hc4 => ?_)
      · replace hf := it hc4 hf
        refine lv_aload_n hx hb dX8_lotOf_30 rfl (lv_at hl 0 rfl) ?_
        refine va_get hx hb hts n8_ hown hK hP 0 rfl rfl 0 (Nat.le_of_ble_eq_true rfl) k2_ (fun _ h => h) rfl dX8_lotOf_31 ?_
        refine lv_bipush (v := (22 : Int32)) hx hb dX8_lotOf_34 (by decide) ?_
        refine lv_iconst (v := (2 : Int32)) hx hb dX8_lotOf_36 (by decide) ?_
        refine lv_iload_n hx hb dX8_lotOf_37 rfl (lv_at hl 1 rfl) ?_
        refine lv_imul hx hb dX8_lotOf_38 ?_
        refine lv_iadd hx hb dX8_lotOf_39 ?_
        refine lv_iload_n hx hb dX8_lotOf_40 rfl (lv_at hl 2 rfl) ?_
        refine lv_iadd hx hb dX8_lotOf_41 ?_
        obtain ⟨hg5, hf⟩ := gd_s hf
        refine va_iald hx hb hK hP 1 0 rfl rfl hg5 dX8_lotOf_42 ?_
        obtain rfl := Option.some.inj hf
        exact ret 43 ls _ dX8_lotOf_43 rfl rfl
      · replace hf := ie hc4 hf
        refine lv_ldc hx hb hown k3_ dX8_lotOf_25 ?_
        refine lv_goto (tgt := 43) hx hb dX8_lotOf_27 (by decide) ?_
        obtain rfl := Option.some.inj hf
        exact ret 43 ls _ dX8_lotOf_43 rfl rfl
    · replace hf := it hc3 hf
      refine lv_ldc hx hb hown k1_ dX8_lotOf_11 ?_
      obtain rfl := Option.some.inj hf
      exact ret 13 ls _ dX8_lotOf_13 rfl rfl
abbrev rmX8_portionOf : Room := { frames := 3, cells := 0, slots := 0, locals := 42 }
set_option maxHeartbeats 4000000 in
set_option maxRecDepth 100000 in
theorem c_X8_portionOf (b : Nat → Nat) (x1 : Int32) (x2 : Int32) (x3 : Int32) (S : Nat → Int32) (P : Nat → Int32) (Hd : Nat → Int32) (Tr : Nat → Int32) (Tx : Nat → Int32) (told : Nat → Int32) (pasts : Int32) (runs : Int32) (typed : Int32) (spot : Int32) (frm : Int32) (reas : Int32) (caus : Int32) (ords : Int32) (ordr : Int32) (R : Int32) (hf : f_X8_portionOf x1 x2 x3 S = some R) : RdI l yX8_portionOf wsX8_portionOf rmX8_portionOf D cI cC (w_model cI cC b S P Hd Tr Tx told pasts runs typed spot frm reas caus ords ordr) [.ref (b 0), .int x1, .int x2, .int x3] R := by
  refine en_R (cc := cX8_portionOf) (n := 5) (by decide) rfl (Nat.le_of_ble_eq_true rfl) ?_
  intro p e s m args below meth c Q AA ls hx hb hml hown hts hK hN hP hD hl ret
  have hown : s.vm.findClass RX8 = some m.cls := hown
  have hF : FX p m c cX8_portionOf 5 s args wsX8_portionOf RX8 D cI cC := ⟨⟨hx, hb, hml, hown, hts⟩, hK, hN⟩
  have hl : lv_has ls 5 [(0, .ref (b 0)), (1, .int x1), (2, .int x2), (3, .int x3)] := hl
  have k1_ := hts (.constant RX8 64 (-1000001)) (List.mem_of_getElem? (i := 1) rfl)
  have k2_ := hts (.fieldLink RX8 7 "DriftGrindersModel" "s" "[I") (List.mem_of_getElem? (i := 2) rfl)
  have k3_ := hts (.constant RX8 96 (-1000004)) (List.mem_of_getElem? (i := 3) rfl)
  have n8_ : ∀ w ∈ wsX80, w ∈ wsX8_portionOf := fun _ h => List.mem_cons_of_mem _ (List.mem_append_right _ h)
  have J63 : ∀ (y2_63 : Int32) (y3_63 : Int32) (z0_63 : Int32), ∀ ls : Array Slot, lv_has ls 5 [(0, .ref (b 0)), (2, .int y2_63), (3, .int y3_63)] → f_X8_portionOf_J63 S y2_63 y3_63 z0_63 = some R → W p l e rmX8_portionOf s m args below meth c s.heap [] 0 0 Q (F0 m 63 ls [.int z0_63, .ref (b 1)]) := by
    intro y2_63 y3_63 z0_63 ls hl hf
    rw [f_X8_portionOf_J63] at hf
    refine lv_iload_n hx hb dX8_portionOf_63 rfl (lv_at hl 1 rfl) ?_
    refine lv_iadd hx hb dX8_portionOf_64 ?_
    obtain ⟨hg10, hf⟩ := gd_s hf
    refine va_iald hx hb hK hP 1 0 rfl rfl hg10 dX8_portionOf_65 ?_
    refine lv_topi (fun v11 ev11 => ?_)
    replace hf := lt_e ev11 hf
    refine lv_istore (lv' := [(4, .int v11), (0, .ref (b 0)), (2, .int y2_63), (3, .int y3_63)]) hx hb dX8_portionOf_66 hl (by decide) rfl (fun ls hl => ?_)
    refine lv_iload_n hx hb dX8_portionOf_68 rfl (lv_at hl 3 rfl) ?_
    refine lv_if_ne (tgt := 80) hx hb dX8_portionOf_69 (by decide) (fun hc12 => ?_) (fun hc12 => ?_)
    · replace hf := ie hc12 hf
      refine lv_iload_n hx hb dX8_portionOf_80 rfl (lv_at hl 3 rfl) ?_
      refine lv_iconst (v := (1 : Int32)) hx hb dX8_portionOf_81 (by decide) ?_
      refine lv_icmp_ne (tgt := 93) hx hb dX8_portionOf_82 (by decide) (fun hc13 => ?_) (fun hc13 => ?_)
      · replace hf := ie hc13 hf
        refine lv_iload_n hx hb dX8_portionOf_93 rfl (lv_at hl 3 rfl) ?_
        refine lv_iconst (v := (2 : Int32)) hx hb dX8_portionOf_94 (by decide) ?_
        refine lv_icmp_ne (tgt := 106) hx hb dX8_portionOf_95 (by decide) (fun hc14 => ?_) (fun hc14 => ?_)
        · replace hf := ie hc14 hf
          refine lv_iload_n hx hb dX8_portionOf_106 rfl (lv_at hl 3 rfl) ?_
          refine lv_iconst (v := (3 : Int32)) hx hb dX8_portionOf_107 (by decide) ?_
          refine lv_icmp_ne (tgt := 119) hx hb dX8_portionOf_108 (by decide) (fun hc15 => ?_) (fun hc15 => ?_)
          · replace hf := ie hc15 hf
            refine lv_aload_n hx hb dX8_portionOf_119 rfl (lv_at hl 1 rfl) ?_
            refine lv_iload hx hb dX8_portionOf_120 (lv_at hl 0 rfl) ?_
            obtain ⟨q16, hq16, hf⟩ := ob hf
            refine cl_RV (As := [.int v11]) (rest := []) hF hP hD (c_X8_flowOf b v11 S P Hd Tr Tx told pasts runs typed spot frm reas caus ords ordr q16 hq16) (cwV 1 hts gX8_portionOf_X8_flowOf rfl rfl rfl (by decide +kernel) ⟨(Nat.le_of_ble_eq_true rfl), (Nat.le_of_ble_eq_true rfl)⟩) [0, 1, 2, 3, 4, 5, 6] rfl (by decide +kernel) (va_recv hK hP (ci := 8) (q0 := 0) rfl rfl) rfl rfl hl.1 (Nat.le_of_ble_eq_true rfl) dX8_portionOf_122 ⟨Nat.zero_le _, Nat.zero_le _⟩ ?_
            obtain rfl := Option.some.inj hf
            exact ret 125 ls _ dX8_portionOf_125 rfl rfl
          · replace hf := it hc15 hf
            refine lv_iload hx hb dX8_portionOf_111 (lv_at hl 0 rfl) ?_
            obtain ⟨q17, hq17, hf⟩ := ob hf
            refine cl_RS (As := [.int v11]) (rest := []) hF hP hD (c_X8_gapOf v11 q17 hq17) (va_cwS 1 hts gX8_portionOf_X8_gapOf rfl rfl rfl (by decide +kernel) ⟨(Nat.le_of_ble_eq_true rfl), (Nat.le_of_ble_eq_true rfl)⟩) [] rfl (by decide +kernel) rfl rfl hl.1 (Nat.le_of_ble_eq_true rfl) dX8_portionOf_113 ⟨Nat.zero_le _, Nat.zero_le _⟩ ?_
            refine lv_goto (tgt := 125) hx hb dX8_portionOf_116 (by decide) ?_
            obtain rfl := Option.some.inj hf
            exact ret 125 ls _ dX8_portionOf_125 rfl rfl
        · replace hf := it hc14 hf
          refine lv_iload hx hb dX8_portionOf_98 (lv_at hl 0 rfl) ?_
          obtain ⟨q18, hq18, hf⟩ := ob hf
          refine cl_RS (As := [.int v11]) (rest := []) hF hP hD (c_X8_burrIn v11 q18 hq18) (va_cwS 1 hts gX8_portionOf_X8_burrIn rfl rfl rfl (by decide +kernel) ⟨(Nat.le_of_ble_eq_true rfl), (Nat.le_of_ble_eq_true rfl)⟩) [] rfl (by decide +kernel) rfl rfl hl.1 (Nat.le_of_ble_eq_true rfl) dX8_portionOf_100 ⟨Nat.zero_le _, Nat.zero_le _⟩ ?_
          refine lv_goto (tgt := 125) hx hb dX8_portionOf_103 (by decide) ?_
          obtain rfl := Option.some.inj hf
          exact ret 125 ls _ dX8_portionOf_125 rfl rfl
      · replace hf := it hc13 hf
        refine lv_iload hx hb dX8_portionOf_85 (lv_at hl 0 rfl) ?_
        obtain ⟨q19, hq19, hf⟩ := ob hf
        refine cl_RS (As := [.int v11]) (rest := []) hF hP hD (c_X8_kindOf v11 q19 hq19) (va_cwS 1 hts gX8_portionOf_X8_kindOf rfl rfl rfl (by decide +kernel) ⟨(Nat.le_of_ble_eq_true rfl), (Nat.le_of_ble_eq_true rfl)⟩) [] rfl (by decide +kernel) rfl rfl hl.1 (Nat.le_of_ble_eq_true rfl) dX8_portionOf_87 ⟨Nat.zero_le _, Nat.zero_le _⟩ ?_
        refine lv_goto (tgt := 125) hx hb dX8_portionOf_90 (by decide) ?_
        obtain rfl := Option.some.inj hf
        exact ret 125 ls _ dX8_portionOf_125 rfl rfl
    · replace hf := it hc12 hf
      refine lv_iload hx hb dX8_portionOf_72 (lv_at hl 0 rfl) ?_
      obtain ⟨q20, hq20, hf⟩ := ob hf
      refine cl_RS (As := [.int v11]) (rest := []) hF hP hD (c_X8_amountOf v11 q20 hq20) (va_cwS 1 hts gX8_portionOf_X8_amountOf rfl rfl rfl (by decide +kernel) ⟨(Nat.le_of_ble_eq_true rfl), (Nat.le_of_ble_eq_true rfl)⟩) [] rfl (by decide +kernel) rfl rfl hl.1 (Nat.le_of_ble_eq_true rfl) dX8_portionOf_74 ⟨Nat.zero_le _, Nat.zero_le _⟩ ?_
      refine lv_goto (tgt := 125) hx hb dX8_portionOf_77 (by decide) ?_
      obtain rfl := Option.some.inj hf
      exact ret 125 ls _ dX8_portionOf_125 rfl rfl
  have J40 : ∀ (y1_40 : Int32) (y2_40 : Int32) (y3_40 : Int32) (z0_40 : Int32) (z2_40 : Int32), ∀ ls : Array Slot, lv_has ls 5 [(0, .ref (b 0)), (1, .int y1_40), (2, .int y2_40), (3, .int y3_40)] → f_X8_portionOf_J40 S y1_40 y2_40 y3_40 z0_40 z2_40 = some R → W p l e rmX8_portionOf s m args below meth c s.heap [] 0 0 Q (F0 m 40 ls [.int z0_40, .ref (b 1), .int z2_40]) := by
    intro y1_40 y2_40 y3_40 z0_40 z2_40 ls hl hf
    rw [f_X8_portionOf_J40] at hf
    obtain ⟨hg7, hf⟩ := gd_s hf
    refine va_iald hx hb hK hP 1 0 rfl rfl hg7 dX8_portionOf_40 ?_
    refine lv_icmp_lt (tgt := 47) hx hb dX8_portionOf_41 (by decide) (fun hc8 => ?_) (fun hc8 => ?_)
    · replace hf := it hc8 hf
      refine lv_aload_n hx hb dX8_portionOf_47 rfl (lv_at hl 0 rfl) ?_
      refine va_get hx hb hts n8_ hown hK hP 0 rfl rfl 0 (Nat.le_of_ble_eq_true rfl) k2_ (fun _ h => h) rfl dX8_portionOf_48 ?_
      refine lv_iload_n hx hb dX8_portionOf_51 rfl (lv_at hl 1 rfl) ?_
      refine lv_if_ne (tgt := 60) hx hb dX8_portionOf_52 (by decide) (fun hc9 => ?_) (fun hc9 => ?_)
      · replace hf := ie hc9 hf
        refine lv_sipush (v := (146 : Int32)) hx hb dX8_portionOf_60 (by decide) ?_
        exact J63 y2_40 y3_40 (146 : Int32) ls (lv_sub hl [0, 2, 3] rfl) hf
      · replace hf := it hc9 hf
        refine lv_bipush (v := (35 : Int32)) hx hb dX8_portionOf_55 (by decide) ?_
        refine lv_goto (tgt := 63) hx hb dX8_portionOf_57 (by decide) ?_
        exact J63 y2_40 y3_40 (35 : Int32) ls (lv_sub hl [0, 2, 3] rfl) hf
    · replace hf := ie hc8 hf
      refine lv_ldc hx hb hown k3_ dX8_portionOf_44 ?_
      obtain rfl := Option.some.inj hf
      exact ret 46 ls _ dX8_portionOf_46 rfl rfl
  rw [f_X8_portionOf] at hf
  refine lv_iload_n hx hb dX8_portionOf_0 rfl (lv_at hl 1 rfl) ?_
  obtain ⟨q1, hq1, hf⟩ := ob hf
  refine cl_RS (As := [.int x1]) (rest := []) hF hP hD (c_X8_isOne x1 q1 hq1) (va_cwS 1 hts gX8_portionOf_X8_isOne rfl rfl rfl (by decide +kernel) ⟨(Nat.le_of_ble_eq_true rfl), (Nat.le_of_ble_eq_true rfl)⟩) [] rfl (by decide +kernel) rfl rfl hl.1 (Nat.le_of_ble_eq_true rfl) dX8_portionOf_1 ⟨Nat.zero_le _, Nat.zero_le _⟩ ?_
  refine lv_if_eq (tgt := 20) hx hb dX8_portionOf_4 (by decide) (fun hc2 => ?_) (fun hc2 => ?_)
  · replace hf := it hc2 hf
    refine lv_ldc hx hb hown k1_ dX8_portionOf_20 ?_
    obtain rfl := Option.some.inj hf
    exact ret 22 ls _ dX8_portionOf_22 rfl rfl
  · replace hf := ie hc2 hf
    refine lv_iload_n hx hb dX8_portionOf_7 rfl (lv_at hl 2 rfl) ?_
    refine lv_if_lt (tgt := 20) hx hb dX8_portionOf_8 (by decide) (fun hc3 => ?_) (fun hc3 => ?_)
    · replace hf := it hc3 hf
      refine lv_ldc hx hb hown k1_ dX8_portionOf_20 ?_
      obtain rfl := Option.some.inj hf
      exact ret 22 ls _ dX8_portionOf_22 rfl rfl
    · replace hf := ie hc3 hf
      refine lv_iload_n hx hb dX8_portionOf_11 rfl (lv_at hl 3 rfl) ?_
      refine lv_iconst (v := (0 : Int32)) hx hb dX8_portionOf_12 (by decide) ?_
      refine lv_iconst (v := (4 : Int32)) hx hb dX8_portionOf_13 (by decide) ?_
      obtain ⟨q4, hq4, hf⟩ := ob hf
      refine cl_RS (As := [.int x3, .int (0 : Int32), .int (4 : Int32)]) (rest := []) hF hP hD (c_X8_in x3 (0 : Int32) (4 : Int32) q4 hq4) (va_cwS 3 hts gX8_portionOf_X8_in rfl rfl rfl (by decide +kernel) ⟨(Nat.le_of_ble_eq_true rfl), (Nat.le_of_ble_eq_true rfl)⟩) [] rfl (by decide +kernel) rfl rfl hl.1 (Nat.le_of_ble_eq_true rfl) dX8_portionOf_14 ⟨Nat.zero_le _, Nat.zero_le _⟩ ?_
      refine lv_if_ne (tgt := 23) hx hb dX8_portionOf_17 (by decide) (fun hc5 => ?_) (fun hc5 => ?_)
      · replace hf := ie hc5 hf
        refine lv_iload_n hx hb dX8_portionOf_23 rfl (lv_at hl 2 rfl) ?_
        refine lv_aload_n hx hb dX8_portionOf_24 rfl (lv_at hl 0 rfl) ?_
        refine va_get hx hb hts n8_ hown hK hP 0 rfl rfl 0 (Nat.le_of_ble_eq_true rfl) k2_ (fun _ h => h) rfl dX8_portionOf_25 ?_
        refine lv_iload_n hx hb dX8_portionOf_28 rfl (lv_at hl 1 rfl) ?_
        refine lv_if_ne (tgt := 37) hx hb dX8_portionOf_29 (by decide) (fun hc6 => ?_) (fun hc6 => ?_)
        · replace hf := ie hc6 hf
          refine lv_sipush (v := (145 : Int32)) hx hb dX8_portionOf_37 (by decide) ?_
          exact J40 x1 x2 x3 (145 : Int32) x2 ls (lv_sub hl [0, 1, 2, 3] rfl) hf
        · replace hf := it hc6 hf
          refine lv_bipush (v := (34 : Int32)) hx hb dX8_portionOf_32 (by decide) ?_
          refine lv_goto (tgt := 40) hx hb dX8_portionOf_34 (by decide) ?_
          exact J40 x1 x2 x3 (34 : Int32) x2 ls (lv_sub hl [0, 1, 2, 3] rfl) hf
      · replace hf := it hc5 hf
        refine lv_ldc hx hb hown k1_ dX8_portionOf_20 ?_
        obtain rfl := Option.some.inj hf
        exact ret 22 ls _ dX8_portionOf_22 rfl rfl
abbrev rmX8_shotOf : Room := { frames := 2, cells := 0, slots := 0, locals := 22 }
set_option maxHeartbeats 4000000 in
set_option maxRecDepth 100000 in
theorem c_X8_shotOf (b : Nat → Nat) (x1 : Int32) (x2 : Int32) (S : Nat → Int32) (P : Nat → Int32) (Hd : Nat → Int32) (Tr : Nat → Int32) (Tx : Nat → Int32) (told : Nat → Int32) (pasts : Int32) (runs : Int32) (typed : Int32) (spot : Int32) (frm : Int32) (reas : Int32) (caus : Int32) (ords : Int32) (ordr : Int32) (R : Int32) (hf : f_X8_shotOf x1 x2 S = some R) : RdI l yX8_shotOf wsX8_shotOf rmX8_shotOf D cI cC (w_model cI cC b S P Hd Tr Tx told pasts runs typed spot frm reas caus ords ordr) [.ref (b 0), .int x1, .int x2] R := by
  refine en_R (cc := cX8_shotOf) (n := 4) (by decide) rfl (Nat.le_of_ble_eq_true rfl) ?_
  intro p e s m args below meth c Q AA ls hx hb hml hown hts hK hN hP hD hl ret
  have hown : s.vm.findClass RX8 = some m.cls := hown
  have hF : FX p m c cX8_shotOf 4 s args wsX8_shotOf RX8 D cI cC := ⟨⟨hx, hb, hml, hown, hts⟩, hK, hN⟩
  have hl : lv_has ls 4 [(0, .ref (b 0)), (1, .int x1), (2, .int x2)] := hl
  have k1_ := hts (.constant RX8 64 (-1000001)) (List.mem_of_getElem? (i := 1) rfl)
  have k2_ := hts (.fieldLink RX8 7 "DriftGrindersModel" "s" "[I") (List.mem_of_getElem? (i := 2) rfl)
  have k3_ := hts (.constant RX8 96 (-1000004)) (List.mem_of_getElem? (i := 3) rfl)
  have n8_ : ∀ w ∈ wsX80, w ∈ wsX8_shotOf := fun _ h => List.mem_cons_of_mem _ (List.mem_append_right _ h)
  have J78 : ∀ (z0_78 : Int32) (z1_78 : Int32), ∀ ls : Array Slot, lv_has ls 4 [] → f_X8_shotOf_J78 S z0_78 z1_78 = some R → W p l e rmX8_shotOf s m args below meth c s.heap [] 0 0 Q (F0 m 78 ls [.int z0_78, .int z1_78, .ref (b 1)]) := by
    intro z0_78 z1_78 ls hl hf
    rw [f_X8_shotOf_J78] at hf
    refine lv_iadd hx hb dX8_shotOf_78 ?_
    obtain ⟨hg10, hf⟩ := gd_s hf
    refine va_iald hx hb hK hP 1 0 rfl rfl hg10 dX8_shotOf_79 ?_
    obtain rfl := Option.some.inj hf
    exact ret 80 ls _ dX8_shotOf_80 rfl rfl
  rw [f_X8_shotOf] at hf
  refine lv_iload_n hx hb dX8_shotOf_0 rfl (lv_at hl 1 rfl) ?_
  refine lv_if_lt (tgt := 14) hx hb dX8_shotOf_1 (by decide) (fun hc1 => ?_) (fun hc1 => ?_)
  · replace hf := it hc1 hf
    refine lv_ldc hx hb hown k1_ dX8_shotOf_14 ?_
    obtain rfl := Option.some.inj hf
    exact ret 16 ls _ dX8_shotOf_16 rfl rfl
  · replace hf := ie hc1 hf
    refine lv_iload_n hx hb dX8_shotOf_4 rfl (lv_at hl 2 rfl) ?_
    refine lv_iconst (v := (0 : Int32)) hx hb dX8_shotOf_5 (by decide) ?_
    refine lv_bipush (v := (7 : Int32)) hx hb dX8_shotOf_6 (by decide) ?_
    obtain ⟨q2, hq2, hf⟩ := ob hf
    refine cl_RS (As := [.int x2, .int (0 : Int32), .int (7 : Int32)]) (rest := []) hF hP hD (c_X8_in x2 (0 : Int32) (7 : Int32) q2 hq2) (va_cwS 3 hts gX8_shotOf_X8_in rfl rfl rfl (by decide +kernel) ⟨(Nat.le_of_ble_eq_true rfl), (Nat.le_of_ble_eq_true rfl)⟩) [] rfl (by decide +kernel) rfl rfl hl.1 (Nat.le_of_ble_eq_true rfl) dX8_shotOf_8 ⟨Nat.zero_le _, Nat.zero_le _⟩ ?_
    refine lv_if_ne (tgt := 17) hx hb dX8_shotOf_11 (by decide) (fun hc3 => ?_) (fun hc3 => ?_)
    · replace hf := ie hc3 hf
      refine lv_iload_n hx hb dX8_shotOf_17 rfl (lv_at hl 1 rfl) ?_
      refine lv_aload_n hx hb dX8_shotOf_18 rfl (lv_at hl 0 rfl) ?_
      refine va_get hx hb hts n8_ hown hK hP 0 rfl rfl 0 (Nat.le_of_ble_eq_true rfl) k2_ (fun _ h => h) rfl dX8_shotOf_19 ?_
      refine lv_sipush (v := (546 : Int32)) hx hb dX8_shotOf_22 (by decide) ?_
      refine va_iald hx hb hK hP 1 0 rfl rfl (show ¬ ((546 : Int32) < 0 ∨ 631 ≤ (546 : Int32).toNatClampNeg) by decide) dX8_shotOf_25 ?_
      refine lv_icmp_lt (tgt := 32) hx hb dX8_shotOf_26 (by decide) (fun hc4 => ?_) (fun hc4 => ?_)
      · replace hf := it hc4 hf
        refine lv_sipush (v := (547 : Int32)) hx hb dX8_shotOf_32 (by decide) ?_
        refine lv_bipush (v := (7 : Int32)) hx hb dX8_shotOf_35 (by decide) ?_
        refine lv_iload_n hx hb dX8_shotOf_37 rfl (lv_at hl 1 rfl) ?_
        refine lv_imul hx hb dX8_shotOf_38 ?_
        refine lv_iadd hx hb dX8_shotOf_39 ?_
        refine lv_topi (fun v5 ev5 => ?_)
        replace hf := lt_e ev5 hf
        refine lv_istore_n (lv' := [(3, .int v5), (0, .ref (b 0)), (1, .int x1), (2, .int x2)]) hx hb dX8_shotOf_40 rfl hl (by decide) rfl (fun ls hl => ?_)
        refine lv_iload_n hx hb dX8_shotOf_41 rfl (lv_at hl 3 rfl) ?_
        refine lv_iconst (v := (5 : Int32)) hx hb dX8_shotOf_42 (by decide) ?_
        refine lv_icmp_ne (tgt := 61) hx hb dX8_shotOf_43 (by decide) (fun hc6 => ?_) (fun hc6 => ?_)
        · replace hf := ie hc6 hf
          refine lv_aload_n hx hb dX8_shotOf_61 rfl (lv_at hl 1 rfl) ?_
          refine va_get hx hb hts n8_ hown hK hP 0 rfl rfl 0 (Nat.le_of_ble_eq_true rfl) k2_ (fun _ h => h) rfl dX8_shotOf_62 ?_
          refine lv_iload_n hx hb dX8_shotOf_65 rfl (lv_at hl 0 rfl) ?_
          refine lv_iload_n hx hb dX8_shotOf_66 rfl (lv_at hl 3 rfl) ?_
          refine lv_iconst (v := (5 : Int32)) hx hb dX8_shotOf_67 (by decide) ?_
          refine lv_icmp_ge (tgt := 75) hx hb dX8_shotOf_68 (by decide) (fun hc7 => ?_) (fun hc7 => ?_)
          · replace hf := it hc7 hf
            refine lv_iload_n hx hb dX8_shotOf_75 rfl (lv_at hl 3 rfl) ?_
            refine lv_iconst (v := (1 : Int32)) hx hb dX8_shotOf_76 (by decide) ?_
            refine lv_isub hx hb dX8_shotOf_77 ?_
            exact J78 (x2 - (1 : Int32)) v5 ls (lv_sub hl [] rfl) hf
          · replace hf := ie hc7 hf
            refine lv_iload_n hx hb dX8_shotOf_71 rfl (lv_at hl 3 rfl) ?_
            refine lv_goto (tgt := 78) hx hb dX8_shotOf_72 (by decide) ?_
            exact J78 x2 v5 ls (lv_sub hl [] rfl) hf
        · replace hf := it hc6 hf
          refine lv_aload_n hx hb dX8_shotOf_46 rfl (lv_at hl 1 rfl) ?_
          refine lv_aload_n hx hb dX8_shotOf_47 rfl (lv_at hl 1 rfl) ?_
          refine va_get hx hb hts n8_ hown hK hP 0 rfl rfl 0 (Nat.le_of_ble_eq_true rfl) k2_ (fun _ h => h) rfl dX8_shotOf_48 ?_
          refine lv_iload_n hx hb dX8_shotOf_51 rfl (lv_at hl 0 rfl) ?_
          refine lv_iconst (v := (1 : Int32)) hx hb dX8_shotOf_52 (by decide) ?_
          refine lv_iadd hx hb dX8_shotOf_53 ?_
          obtain ⟨hg8, hf⟩ := gd_s hf
          refine va_iald hx hb hK hP 1 0 rfl rfl hg8 dX8_shotOf_54 ?_
          obtain ⟨q9, hq9, hf⟩ := ob hf
          refine cl_RV (As := [.int (S (v5 + (1 : Int32)).toNatClampNeg)]) (rest := []) hF hP hD (c_X8_away b (S (v5 + (1 : Int32)).toNatClampNeg) S P Hd Tr Tx told pasts runs typed spot frm reas caus ords ordr q9 hq9) (cwV 1 hts gX8_shotOf_X8_away rfl rfl rfl (by decide +kernel) ⟨(Nat.le_of_ble_eq_true rfl), (Nat.le_of_ble_eq_true rfl)⟩) [0, 1, 2, 3, 4, 5, 6] rfl (by decide +kernel) (va_recv hK hP (ci := 8) (q0 := 0) rfl rfl) rfl rfl hl.1 (Nat.le_of_ble_eq_true rfl) dX8_shotOf_55 ⟨Nat.zero_le _, Nat.zero_le _⟩ ?_
          refine lv_goto (tgt := 80) hx hb dX8_shotOf_58 (by decide) ?_
          obtain rfl := Option.some.inj hf
          exact ret 80 ls _ dX8_shotOf_80 rfl rfl
      · replace hf := ie hc4 hf
        refine lv_ldc hx hb hown k3_ dX8_shotOf_29 ?_
        obtain rfl := Option.some.inj hf
        exact ret 31 ls _ dX8_shotOf_31 rfl rfl
    · replace hf := it hc3 hf
      refine lv_ldc hx hb hown k1_ dX8_shotOf_14 ?_
      obtain rfl := Option.some.inj hf
      exact ret 16 ls _ dX8_shotOf_16 rfl rfl
end
