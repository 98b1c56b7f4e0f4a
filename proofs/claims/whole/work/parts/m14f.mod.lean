section
variable {l : Launch} {D : va_G} {cI cC : ClassId}
abbrev rmX8_undo : Room := { frames := 1, cells := 0, slots := 0, locals := 0 }
set_option maxHeartbeats 4000000 in
set_option maxRecDepth 100000 in
theorem c_X8_undo (b : Nat → Nat) (S : Nat → Int32) (P : Nat → Int32) (Hd : Nat → Int32) (Tr : Nat → Int32) (Tx : Nat → Int32) (told : Nat → Int32) (pasts : Int32) (runs : Int32) (typed : Int32) (spot : Int32) (frm : Int32) (reas : Int32) (caus : Int32) (ords : Int32) (ordr : Int32) (R : Int32 × (Nat → Int32) × Int32) (hf : f_X8_undo S P pasts = some R) : WrI l yX8_undo wsX8_undo rmX8_undo D cI cC (w_model cI cC b S P Hd Tr Tx told pasts runs typed spot frm reas caus ords ordr) (w_model cI cC b R.2.1 P Hd Tr Tx told R.2.2 runs typed spot frm reas caus ords ordr) [.ref (b 0)] R.1 := by
  refine en_W (cc := cX8_undo) (n := 2) (by decide) rfl (Nat.le_of_ble_eq_true rfl) ?_
  intro p e s m args below meth c Q AA ls hx hb hml hown hts hK hN hP hD hS hl ret
  have hown : s.vm.findClass RX8 = some m.cls := hown
  have hF : FX p m c cX8_undo 2 s args wsX8_undo RX8 D cI cC := ⟨⟨hx, hb, hml, hown, hts⟩, hK, hN⟩
  have hl : lv_has ls 2 [(0, .ref (b 0))] := hl
  have k1_ := hts (.fieldLink RX8 36 "DriftGrindersModel" "pasts" "I") (List.mem_of_getElem? (i := 1) rfl)
  have k2_ := hts (.constant RX8 79 (-1000002)) (List.mem_of_getElem? (i := 2) rfl)
  have k3_ := hts (.fieldLink RX8 7 "DriftGrindersModel" "s" "[I") (List.mem_of_getElem? (i := 3) rfl)
  have k4_ := hts (.fieldLink RX8 13 "DriftGrindersModel" "past" "[I") (List.mem_of_getElem? (i := 4) rfl)
  have n8_ : ∀ w ∈ wsX80, w ∈ wsX8_undo := fun _ h => List.mem_cons_of_mem _ (List.mem_append_right _ h)
  have L22 : ∀ n22 : Nat, ∀ (y1_22 : Int32) (S_22 : Nat → Int32) (pasts_22 : Int32) (H : Heap) (locs : List Loc), va_P D vwCl (w_model cI cC b S_22 P Hd Tr Tx told pasts_22 runs typed spot frm reas caus ords ordr) H → va_D AA (w_model cI cC b S_22 P Hd Tr Tx told pasts_22 runs typed spot frm reas caus ords ordr) → va_S AA s.heap H locs → ∀ ls : Array Slot, lv_has ls 2 [(0, .ref (b 0)), (1, .int y1_22)] → f_X8_undo_L22 P n22 y1_22 S_22 pasts_22 = some R → W p l e rmX8_undo s m args below meth c H locs 0 0 Q (F0 m 22 ls []) := by
    intro n22
    induction n22 with
    | zero => intro y1_22 S_22 pasts_22 H locs hP hD hS ls hl hf; rw [f_X8_undo_L22] at hf; cases hf
    | succ n22 IH22 =>
      intro y1_22 S_22 pasts_22 H locs hP hD hS ls hl hf
      rw [f_X8_undo_L22] at hf
      refine lv_iload_n hx hb dX8_undo_22 rfl (lv_at hl 1 rfl) ?_
      refine lv_sipush (v := (631 : Int32)) hx hb dX8_undo_23 (by decide) ?_
      refine lv_icmp_ge (tgt := 56) hx hb dX8_undo_26 (by decide) (fun hc3 => ?_) (fun hc3 => ?_)
      · replace hf := it hc3 hf
        refine lv_aload_n hx hb dX8_undo_56 rfl (lv_at hl 0 rfl) ?_
        refine va_get hx hb hts n8_ hown hK hP 0 rfl rfl 4 (Nat.le_of_ble_eq_true rfl) k1_ (fun _ h => h) rfl dX8_undo_57 ?_
        obtain rfl := Option.some.inj hf
        exact ret 60 ls _ H locs dX8_undo_60 rfl rfl hP hS
      · replace hf := ie hc3 hf
        refine lv_aload_n hx hb dX8_undo_29 rfl (lv_at hl 0 rfl) ?_
        refine va_get hx hb hts n8_ hown hK hP 0 rfl rfl 0 (Nat.le_of_ble_eq_true rfl) k3_ (fun _ h => h) rfl dX8_undo_30 ?_
        refine lv_iload_n hx hb dX8_undo_33 rfl (lv_at hl 1 rfl) ?_
        refine lv_aload_n hx hb dX8_undo_34 rfl (lv_at hl 0 rfl) ?_
        refine va_get hx hb hts n8_ hown hK hP 0 rfl rfl 1 (Nat.le_of_ble_eq_true rfl) k4_ (fun _ h => h) rfl dX8_undo_35 ?_
        refine lv_sipush (v := (631 : Int32)) hx hb dX8_undo_38 (by decide) ?_
        refine lv_aload_n hx hb dX8_undo_41 rfl (lv_at hl 0 rfl) ?_
        refine va_get hx hb hts n8_ hown hK hP 0 rfl rfl 4 (Nat.le_of_ble_eq_true rfl) k1_ (fun _ h => h) rfl dX8_undo_42 ?_
        refine lv_imul hx hb dX8_undo_45 ?_
        refine lv_iload_n hx hb dX8_undo_46 rfl (lv_at hl 1 rfl) ?_
        refine lv_iadd hx hb dX8_undo_47 ?_
        obtain ⟨hg4, hf⟩ := gd_s hf
        refine va_iald hx hb hK hP 2 0 rfl rfl hg4 dX8_undo_48 ?_
        refine lv_topi (fun v5 ev5 => ?_)
        replace hf := lt_e ev5 hf
        obtain ⟨hg6, hf⟩ := gd_s hf
        refine x_iast hx hb hK hP hD hS 1 0 rfl rfl hg6 dX8_undo_49 (fun Z7 H locs eZ7 hP hD hS => ?_)
        replace hf := lt_e eZ7 hf
        have hP : va_P D vwCl (w_model cI cC b Z7 P Hd Tr Tx told pasts_22 runs typed spot frm reas caus ords ordr) H := hP
        have hD : va_D AA (w_model cI cC b Z7 P Hd Tr Tx told pasts_22 runs typed spot frm reas caus ords ordr) := hD
        obtain ⟨v8, ev8⟩ : ∃ z : Int32, z = y1_22 + (1 : Int32) := ⟨_, rfl⟩
        replace hf := lt_e ev8 hf
        refine lv_iinc (v := v8) (lv' := [(1, .int v8), (0, .ref (b 0))]) hx hb dX8_undo_50 hl (k := 1) rfl (by rw [ev8]; rfl) (by decide) rfl (fun ls hl => ?_)
        refine lv_goto (tgt := 22) hx hb dX8_undo_53 (by decide) ?_
        exact IH22 v8 Z7 pasts_22 H locs hP hD hS ls (lv_sub hl [1, 0] rfl) hf
  rw [f_X8_undo] at hf
  obtain ⟨H, hH⟩ : ∃ z : Heap, z = s.heap := ⟨_, rfl⟩
  obtain ⟨locs, hL⟩ : ∃ z : List Loc, z = [] := ⟨_, rfl⟩
  replace hP := hH ▸ hP
  replace hS : va_S AA s.heap H locs := by rw [hH, hL]; exact hS
  suffices hgoal : W p l e rmX8_undo s m args below meth c H locs 0 0 Q (F0 m 0 ls []) by rw [hH, hL] at hgoal; exact hgoal
  clear hH hL
  refine lv_aload_n hx hb dX8_undo_0 rfl (lv_at hl 0 rfl) ?_
  refine va_get hx hb hts n8_ hown hK hP 0 rfl rfl 4 (Nat.le_of_ble_eq_true rfl) k1_ (fun _ h => h) rfl dX8_undo_1 ?_
  refine lv_if_ne (tgt := 10) hx hb dX8_undo_4 (by decide) (fun hc1 => ?_) (fun hc1 => ?_)
  · replace hf := ie hc1 hf
    refine lv_aload_n hx hb dX8_undo_10 rfl (lv_at hl 0 rfl) ?_
    refine lv_dup hx hb dX8_undo_11 rfl ?_
    refine va_get hx hb hts n8_ hown hK hP 0 rfl rfl 4 (Nat.le_of_ble_eq_true rfl) k1_ (fun _ h => h) rfl dX8_undo_12 ?_
    refine lv_iconst (v := (1 : Int32)) hx hb dX8_undo_15 (by decide) ?_
    refine lv_isub hx hb dX8_undo_16 ?_
    refine lv_topi (fun v2 ev2 => ?_)
    replace hf := lt_e ev2 hf
    refine va_put hx hb hts n8_ tyX8 tyX8_ok nmX8 hown hK hP hD hS 0 rfl rfl 4 (Nat.le_of_ble_eq_true rfl) k1_ (fun _ h => h) rfl (v := .int v2) (tyX8_ok 4 (Nat.le_of_ble_eq_true rfl)) rfl rfl (Nat.le_of_ble_eq_true rfl) dX8_undo_17 (fun H locs hP hD hS => ?_)
    have hP : va_P D vwCl (w_model cI cC b S P Hd Tr Tx told v2 runs typed spot frm reas caus ords ordr) H := hP
    have hD : va_D AA (w_model cI cC b S P Hd Tr Tx told v2 runs typed spot frm reas caus ords ordr) := hD
    refine lv_iconst (v := (0 : Int32)) hx hb dX8_undo_20 (by decide) ?_
    refine lv_istore_n (lv' := [(1, .int (0 : Int32)), (0, .ref (b 0))]) hx hb dX8_undo_21 rfl hl (by decide) rfl (fun ls hl => ?_)
    exact L22 FU (0 : Int32) S v2 H locs hP hD hS ls (lv_sub hl [1, 0] rfl) hf
  · replace hf := it hc1 hf
    refine lv_ldc hx hb hown k2_ dX8_undo_7 ?_
    obtain rfl := Option.some.inj hf
    exact ret 9 ls _ H locs dX8_undo_9 rfl rfl hP hS
abbrev rmX8_type : Room := { frames := 2, cells := 0, slots := 0, locals := 22 }
set_option maxHeartbeats 4000000 in
set_option maxRecDepth 100000 in
theorem c_X8_type (b : Nat → Nat) (x1 : Int32) (S : Nat → Int32) (P : Nat → Int32) (Hd : Nat → Int32) (Tr : Nat → Int32) (Tx : Nat → Int32) (told : Nat → Int32) (pasts : Int32) (runs : Int32) (typed : Int32) (spot : Int32) (frm : Int32) (reas : Int32) (caus : Int32) (ords : Int32) (ordr : Int32) (R : Int32 × (Nat → Int32) × Int32) (hf : f_X8_type x1 Tx typed = some R) : WrI l yX8_type wsX8_type rmX8_type D cI cC (w_model cI cC b S P Hd Tr Tx told pasts runs typed spot frm reas caus ords ordr) (w_model cI cC b S P Hd Tr R.2.1 told pasts runs R.2.2 spot frm reas caus ords ordr) [.ref (b 0), .int x1] R.1 := by
  refine en_W (cc := cX8_type) (n := 2) (by decide) rfl (Nat.le_of_ble_eq_true rfl) ?_
  intro p e s m args below meth c Q AA ls hx hb hml hown hts hK hN hP hD hS hl ret
  have hown : s.vm.findClass RX8 = some m.cls := hown
  have hF : FX p m c cX8_type 2 s args wsX8_type RX8 D cI cC := ⟨⟨hx, hb, hml, hown, hts⟩, hK, hN⟩
  have hl : lv_has ls 2 [(0, .ref (b 0)), (1, .int x1)] := hl
  have k1_ := hts (.constant RX8 64 (-1000001)) (List.mem_of_getElem? (i := 1) rfl)
  have k2_ := hts (.fieldLink RX8 122 "DriftGrindersModel" "typed" "I") (List.mem_of_getElem? (i := 2) rfl)
  have k3_ := hts (.constant RX8 69 (-1000003)) (List.mem_of_getElem? (i := 3) rfl)
  have k4_ := hts (.fieldLink RX8 22 "DriftGrindersModel" "text" "[I") (List.mem_of_getElem? (i := 4) rfl)
  have n8_ : ∀ w ∈ wsX80, w ∈ wsX8_type := fun _ h => List.mem_cons_of_mem _ (List.mem_append_right _ h)
  rw [f_X8_type] at hf
  obtain ⟨H, hH⟩ : ∃ z : Heap, z = s.heap := ⟨_, rfl⟩
  obtain ⟨locs, hL⟩ : ∃ z : List Loc, z = [] := ⟨_, rfl⟩
  replace hP := hH ▸ hP
  replace hS : va_S AA s.heap H locs := by rw [hH, hL]; exact hS
  suffices hgoal : W p l e rmX8_type s m args below meth c H locs 0 0 Q (F0 m 0 ls []) by rw [hH, hL] at hgoal; exact hgoal
  clear hH hL
  refine lv_iload_n hx hb dX8_type_0 rfl (lv_at hl 1 rfl) ?_
  refine lv_bipush (v := (32 : Int32)) hx hb dX8_type_1 (by decide) ?_
  refine lv_bipush (v := (126 : Int32)) hx hb dX8_type_3 (by decide) ?_
  obtain ⟨q1, hq1, hf⟩ := ob hf
  refine cl_RS (As := [.int x1, .int (32 : Int32), .int (126 : Int32)]) (rest := []) hF hP hD (c_X8_in x1 (32 : Int32) (126 : Int32) q1 hq1) (va_cwS 3 hts gX8_type_X8_in rfl rfl rfl (by decide +kernel) ⟨(Nat.le_of_ble_eq_true rfl), (Nat.le_of_ble_eq_true rfl)⟩) [] rfl (by decide +kernel) rfl rfl hl.1 (Nat.le_of_ble_eq_true rfl) dX8_type_5 ⟨Nat.zero_le _, Nat.zero_le _⟩ ?_
  refine lv_if_ne (tgt := 14) hx hb dX8_type_8 (by decide) (fun hc2 => ?_) (fun hc2 => ?_)
  · replace hf := ie hc2 hf
    refine lv_aload_n hx hb dX8_type_14 rfl (lv_at hl 0 rfl) ?_
    refine va_get hx hb hts n8_ hown hK hP 0 rfl rfl 7 (Nat.le_of_ble_eq_true rfl) k2_ (fun _ h => h) rfl dX8_type_15 ?_
    refine lv_bipush (v := (60 : Int32)) hx hb dX8_type_18 (by decide) ?_
    refine lv_icmp_ne (tgt := 26) hx hb dX8_type_20 (by decide) (fun hc3 => ?_) (fun hc3 => ?_)
    · replace hf := ie hc3 hf
      refine lv_aload_n hx hb dX8_type_26 rfl (lv_at hl 0 rfl) ?_
      refine va_get hx hb hts n8_ hown hK hP 0 rfl rfl 6 (Nat.le_of_ble_eq_true rfl) k4_ (fun _ h => h) rfl dX8_type_27 ?_
      refine lv_aload_n hx hb dX8_type_30 rfl (lv_at hl 0 rfl) ?_
      refine va_get hx hb hts n8_ hown hK hP 0 rfl rfl 7 (Nat.le_of_ble_eq_true rfl) k2_ (fun _ h => h) rfl dX8_type_31 ?_
      refine lv_iload_n hx hb dX8_type_34 rfl (lv_at hl 1 rfl) ?_
      obtain ⟨hg4, hf⟩ := gd_s hf
      refine x_iast hx hb hK hP hD hS 5 0 rfl rfl hg4 dX8_type_35 (fun Z5 H locs eZ5 hP hD hS => ?_)
      replace hf := lt_e eZ5 hf
      have hP : va_P D vwCl (w_model cI cC b S P Hd Tr Z5 told pasts runs typed spot frm reas caus ords ordr) H := hP
      have hD : va_D AA (w_model cI cC b S P Hd Tr Z5 told pasts runs typed spot frm reas caus ords ordr) := hD
      refine lv_aload_n hx hb dX8_type_36 rfl (lv_at hl 0 rfl) ?_
      refine lv_dup hx hb dX8_type_37 rfl ?_
      refine va_get hx hb hts n8_ hown hK hP 0 rfl rfl 7 (Nat.le_of_ble_eq_true rfl) k2_ (fun _ h => h) rfl dX8_type_38 ?_
      refine lv_iconst (v := (1 : Int32)) hx hb dX8_type_41 (by decide) ?_
      refine lv_iadd hx hb dX8_type_42 ?_
      refine lv_topi (fun v6 ev6 => ?_)
      replace hf := lt_e ev6 hf
      refine va_put hx hb hts n8_ tyX8 tyX8_ok nmX8 hown hK hP hD hS 0 rfl rfl 7 (Nat.le_of_ble_eq_true rfl) k2_ (fun _ h => h) rfl (v := .int v6) (tyX8_ok 7 (Nat.le_of_ble_eq_true rfl)) rfl rfl (Nat.le_of_ble_eq_true rfl) dX8_type_43 (fun H locs hP hD hS => ?_)
      have hP : va_P D vwCl (w_model cI cC b S P Hd Tr Z5 told pasts runs v6 spot frm reas caus ords ordr) H := hP
      have hD : va_D AA (w_model cI cC b S P Hd Tr Z5 told pasts runs v6 spot frm reas caus ords ordr) := hD
      refine lv_aload_n hx hb dX8_type_46 rfl (lv_at hl 0 rfl) ?_
      refine va_get hx hb hts n8_ hown hK hP 0 rfl rfl 7 (Nat.le_of_ble_eq_true rfl) k2_ (fun _ h => h) rfl dX8_type_47 ?_
      obtain rfl := Option.some.inj hf
      exact ret 50 ls _ H locs dX8_type_50 rfl rfl hP hS
    · replace hf := it hc3 hf
      refine lv_ldc hx hb hown k3_ dX8_type_23 ?_
      obtain rfl := Option.some.inj hf
      exact ret 25 ls _ H locs dX8_type_25 rfl rfl hP hS
  · replace hf := it hc2 hf
    refine lv_ldc hx hb hown k1_ dX8_type_11 ?_
    obtain rfl := Option.some.inj hf
    exact ret 13 ls _ H locs dX8_type_13 rfl rfl hP hS
abbrev rmX8_clearText : Room := { frames := 1, cells := 0, slots := 0, locals := 0 }
set_option maxHeartbeats 4000000 in
set_option maxRecDepth 100000 in
theorem c_X8_clearText (b : Nat → Nat) (S : Nat → Int32) (P : Nat → Int32) (Hd : Nat → Int32) (Tr : Nat → Int32) (Tx : Nat → Int32) (told : Nat → Int32) (pasts : Int32) (runs : Int32) (typed : Int32) (spot : Int32) (frm : Int32) (reas : Int32) (caus : Int32) (ords : Int32) (ordr : Int32) (R : Int32 × Int32) (hf : f_X8_clearText typed = some R) : WrI l yX8_clearText wsX8_clearText rmX8_clearText D cI cC (w_model cI cC b S P Hd Tr Tx told pasts runs typed spot frm reas caus ords ordr) (w_model cI cC b S P Hd Tr Tx told pasts runs R.2 spot frm reas caus ords ordr) [.ref (b 0)] R.1 := by
  refine en_W (cc := cX8_clearText) (n := 2) (by decide) rfl (Nat.le_of_ble_eq_true rfl) ?_
  intro p e s m args below meth c Q AA ls hx hb hml hown hts hK hN hP hD hS hl ret
  have hown : s.vm.findClass RX8 = some m.cls := hown
  have hF : FX p m c cX8_clearText 2 s args wsX8_clearText RX8 D cI cC := ⟨⟨hx, hb, hml, hown, hts⟩, hK, hN⟩
  have hl : lv_has ls 2 [(0, .ref (b 0))] := hl
  have k1_ := hts (.fieldLink RX8 122 "DriftGrindersModel" "typed" "I") (List.mem_of_getElem? (i := 1) rfl)
  have n8_ : ∀ w ∈ wsX80, w ∈ wsX8_clearText := fun _ h => List.mem_cons_of_mem _ (List.mem_append_right _ h)
  rw [f_X8_clearText] at hf
  obtain ⟨H, hH⟩ : ∃ z : Heap, z = s.heap := ⟨_, rfl⟩
  obtain ⟨locs, hL⟩ : ∃ z : List Loc, z = [] := ⟨_, rfl⟩
  replace hP := hH ▸ hP
  replace hS : va_S AA s.heap H locs := by rw [hH, hL]; exact hS
  suffices hgoal : W p l e rmX8_clearText s m args below meth c H locs 0 0 Q (F0 m 0 ls []) by rw [hH, hL] at hgoal; exact hgoal
  clear hH hL
  refine lv_aload_n hx hb dX8_clearText_0 rfl (lv_at hl 0 rfl) ?_
  refine va_get hx hb hts n8_ hown hK hP 0 rfl rfl 7 (Nat.le_of_ble_eq_true rfl) k1_ (fun _ h => h) rfl dX8_clearText_1 ?_
  refine lv_istore_n (lv' := [(1, .int typed), (0, .ref (b 0))]) hx hb dX8_clearText_4 rfl hl (by decide) rfl (fun ls hl => ?_)
  refine lv_aload_n hx hb dX8_clearText_5 rfl (lv_at hl 1 rfl) ?_
  refine lv_iconst (v := (0 : Int32)) hx hb dX8_clearText_6 (by decide) ?_
  refine va_put hx hb hts n8_ tyX8 tyX8_ok nmX8 hown hK hP hD hS 0 rfl rfl 7 (Nat.le_of_ble_eq_true rfl) k1_ (fun _ h => h) rfl (v := .int (0 : Int32)) (tyX8_ok 7 (Nat.le_of_ble_eq_true rfl)) rfl rfl (Nat.le_of_ble_eq_true rfl) dX8_clearText_7 (fun H locs hP hD hS => ?_)
  have hP : va_P D vwCl (w_model cI cC b S P Hd Tr Tx told pasts runs (0 : Int32) spot frm reas caus ords ordr) H := hP
  have hD : va_D AA (w_model cI cC b S P Hd Tr Tx told pasts runs (0 : Int32) spot frm reas caus ords ordr) := hD
  refine lv_iload_n hx hb dX8_clearText_10 rfl (lv_at hl 0 rfl) ?_
  obtain rfl := Option.some.inj hf
  exact ret 11 ls _ H locs dX8_clearText_11 rfl rfl hP hS
abbrev rmX8_isAt : Room := { frames := 2, cells := 0, slots := 0, locals := 22 }
set_option maxHeartbeats 4000000 in
set_option maxRecDepth 100000 in
theorem c_X8_isAt (b : Nat → Nat) (x1 : Int32) (x2 : Int32) (S : Nat → Int32) (P : Nat → Int32) (Hd : Nat → Int32) (Tr : Nat → Int32) (Tx : Nat → Int32) (told : Nat → Int32) (pasts : Int32) (runs : Int32) (typed : Int32) (spot : Int32) (frm : Int32) (reas : Int32) (caus : Int32) (ords : Int32) (ordr : Int32) (R : Int32) (hf : f_X8_isAt x1 x2 Tx typed spot = some R) : RdI l yX8_isAt wsX8_isAt rmX8_isAt D cI cC (w_model cI cC b S P Hd Tr Tx told pasts runs typed spot frm reas caus ords ordr) [.ref (b 0), .int x1, .int x2] R := by
  refine en_R (cc := cX8_isAt) (n := 3) (by decide) rfl (Nat.le_of_ble_eq_true rfl) ?_
  intro p e s m args below meth c Q AA ls hx hb hml hown hts hK hN hP hD hl ret
  have hown : s.vm.findClass RX8 = some m.cls := hown
  have hF : FX p m c cX8_isAt 3 s args wsX8_isAt RX8 D cI cC := ⟨⟨hx, hb, hml, hown, hts⟩, hK, hN⟩
  have hl : lv_has ls 3 [(0, .ref (b 0)), (1, .int x1), (2, .int x2)] := hl
  have k1_ := hts (.fieldLink RX8 125 "DriftGrindersModel" "spot" "I") (List.mem_of_getElem? (i := 1) rfl)
  have k2_ := hts (.fieldLink RX8 122 "DriftGrindersModel" "typed" "I") (List.mem_of_getElem? (i := 2) rfl)
  have k3_ := hts (.fieldLink RX8 22 "DriftGrindersModel" "text" "[I") (List.mem_of_getElem? (i := 3) rfl)
  have n8_ : ∀ w ∈ wsX80, w ∈ wsX8_isAt := fun _ h => List.mem_cons_of_mem _ (List.mem_append_right _ h)
  rw [f_X8_isAt] at hf
  refine lv_aload_n hx hb dX8_isAt_0 rfl (lv_at hl 0 rfl) ?_
  refine va_get hx hb hts n8_ hown hK hP 0 rfl rfl 8 (Nat.le_of_ble_eq_true rfl) k1_ (fun _ h => h) rfl dX8_isAt_1 ?_
  refine lv_aload_n hx hb dX8_isAt_4 rfl (lv_at hl 0 rfl) ?_
  refine va_get hx hb hts n8_ hown hK hP 0 rfl rfl 7 (Nat.le_of_ble_eq_true rfl) k2_ (fun _ h => h) rfl dX8_isAt_5 ?_
  refine lv_icmp_ge (tgt := 32) hx hb dX8_isAt_8 (by decide) (fun hc1 => ?_) (fun hc1 => ?_)
  · replace hf := it hc1 hf
    refine lv_iconst (v := (0 : Int32)) hx hb dX8_isAt_32 (by decide) ?_
    obtain rfl := Option.some.inj hf
    exact ret 33 ls _ dX8_isAt_33 (by decide) rfl
  · replace hf := ie hc1 hf
    refine lv_aload_n hx hb dX8_isAt_11 rfl (lv_at hl 0 rfl) ?_
    refine va_get hx hb hts n8_ hown hK hP 0 rfl rfl 6 (Nat.le_of_ble_eq_true rfl) k3_ (fun _ h => h) rfl dX8_isAt_12 ?_
    refine lv_aload_n hx hb dX8_isAt_15 rfl (lv_at hl 0 rfl) ?_
    refine va_get hx hb hts n8_ hown hK hP 0 rfl rfl 8 (Nat.le_of_ble_eq_true rfl) k1_ (fun _ h => h) rfl dX8_isAt_16 ?_
    obtain ⟨hg2, hf⟩ := gd_s hf
    refine va_iald hx hb hK hP 5 0 rfl rfl hg2 dX8_isAt_19 ?_
    refine lv_iload_n hx hb dX8_isAt_20 rfl (lv_at hl 1 rfl) ?_
    refine lv_iload_n hx hb dX8_isAt_21 rfl (lv_at hl 2 rfl) ?_
    obtain ⟨q3, hq3, hf⟩ := ob hf
    refine cl_RS (As := [.int (Tx spot.toNatClampNeg), .int x1, .int x2]) (rest := []) hF hP hD (c_X8_in (Tx spot.toNatClampNeg) x1 x2 q3 hq3) (va_cwS 3 hts gX8_isAt_X8_in rfl rfl rfl (by decide +kernel) ⟨(Nat.le_of_ble_eq_true rfl), (Nat.le_of_ble_eq_true rfl)⟩) [] rfl (by decide +kernel) rfl rfl hl.1 (Nat.le_of_ble_eq_true rfl) dX8_isAt_22 ⟨Nat.zero_le _, Nat.zero_le _⟩ ?_
    refine lv_if_eq (tgt := 32) hx hb dX8_isAt_25 (by decide) (fun hc4 => ?_) (fun hc4 => ?_)
    · replace hf := it hc4 hf
      refine lv_iconst (v := (0 : Int32)) hx hb dX8_isAt_32 (by decide) ?_
      obtain rfl := Option.some.inj hf
      exact ret 33 ls _ dX8_isAt_33 (by decide) rfl
    · replace hf := ie hc4 hf
      refine lv_iconst (v := (1 : Int32)) hx hb dX8_isAt_28 (by decide) ?_
      refine lv_goto (tgt := 33) hx hb dX8_isAt_29 (by decide) ?_
      obtain rfl := Option.some.inj hf
      exact ret 33 ls _ dX8_isAt_33 (by decide) rfl
abbrev rmX8_sign : Room := { frames := 3, cells := 0, slots := 0, locals := 44 }
set_option maxHeartbeats 4000000 in
set_option maxRecDepth 100000 in
theorem c_X8_sign (b : Nat → Nat) (x1 : Int32) (S : Nat → Int32) (P : Nat → Int32) (Hd : Nat → Int32) (Tr : Nat → Int32) (Tx : Nat → Int32) (told : Nat → Int32) (pasts : Int32) (runs : Int32) (typed : Int32) (spot : Int32) (frm : Int32) (reas : Int32) (caus : Int32) (ords : Int32) (ordr : Int32) (R : Int32 × Int32) (hf : f_X8_sign x1 Tx typed spot = some R) : WrI l yX8_sign wsX8_sign rmX8_sign D cI cC (w_model cI cC b S P Hd Tr Tx told pasts runs typed spot frm reas caus ords ordr) (w_model cI cC b S P Hd Tr Tx told pasts runs typed R.2 frm reas caus ords ordr) [.ref (b 0), .int x1] R.1 := by
  refine en_W (cc := cX8_sign) (n := 3) (by decide) rfl (Nat.le_of_ble_eq_true rfl) ?_
  intro p e s m args below meth c Q AA ls hx hb hml hown hts hK hN hP hD hS hl ret
  have hown : s.vm.findClass RX8 = some m.cls := hown
  have hF : FX p m c cX8_sign 3 s args wsX8_sign RX8 D cI cC := ⟨⟨hx, hb, hml, hown, hts⟩, hK, hN⟩
  have hl : lv_has ls 3 [(0, .ref (b 0)), (1, .int x1)] := hl
  have k1_ := hts (.fieldLink RX8 125 "DriftGrindersModel" "spot" "I") (List.mem_of_getElem? (i := 1) rfl)
  have n8_ : ∀ w ∈ wsX80, w ∈ wsX8_sign := fun _ h => List.mem_cons_of_mem _ (List.mem_append_right _ h)
  have J21 : ∀ (y2_21 : Int32) (z0_21 : Int32) (z1_21 : Int32) (spot_21 : Int32) (H : Heap) (locs : List Loc), va_P D vwCl (w_model cI cC b S P Hd Tr Tx told pasts runs typed spot_21 frm reas caus ords ordr) H → va_D AA (w_model cI cC b S P Hd Tr Tx told pasts runs typed spot_21 frm reas caus ords ordr) → va_S AA s.heap H locs → ∀ ls : Array Slot, lv_has ls 3 [(2, .int y2_21)] → f_X8_sign_J21 Tx typed y2_21 z0_21 z1_21 spot_21 = some R → W p l e rmX8_sign s m args below meth c H locs 0 0 Q (F0 m 21 ls [.int z0_21, .int z1_21, .ref (b 0)]) := by
    intro y2_21 z0_21 z1_21 spot_21 H locs hP hD hS ls hl hf
    rw [f_X8_sign_J21] at hf
    refine lv_iadd hx hb dX8_sign_21 ?_
    refine lv_topi (fun v3 ev3 => ?_)
    replace hf := lt_e ev3 hf
    refine va_put hx hb hts n8_ tyX8 tyX8_ok nmX8 hown hK hP hD hS 0 rfl rfl 8 (Nat.le_of_ble_eq_true rfl) k1_ (fun _ h => h) rfl (v := .int v3) (tyX8_ok 8 (Nat.le_of_ble_eq_true rfl)) rfl rfl (Nat.le_of_ble_eq_true rfl) dX8_sign_22 (fun H locs hP hD hS => ?_)
    have hP : va_P D vwCl (w_model cI cC b S P Hd Tr Tx told pasts runs typed v3 frm reas caus ords ordr) H := hP
    have hD : va_D AA (w_model cI cC b S P Hd Tr Tx told pasts runs typed v3 frm reas caus ords ordr) := hD
    refine lv_iload_n hx hb dX8_sign_25 rfl (lv_at hl 0 rfl) ?_
    obtain ⟨hg4, hf⟩ := gd_s hf
    obtain rfl := Option.some.inj hf
    exact ret 26 ls _ H locs dX8_sign_26 (zb_ok hg4) rfl hP hS
  rw [f_X8_sign] at hf
  obtain ⟨H, hH⟩ : ∃ z : Heap, z = s.heap := ⟨_, rfl⟩
  obtain ⟨locs, hL⟩ : ∃ z : List Loc, z = [] := ⟨_, rfl⟩
  replace hP := hH ▸ hP
  replace hS : va_S AA s.heap H locs := by rw [hH, hL]; exact hS
  suffices hgoal : W p l e rmX8_sign s m args below meth c H locs 0 0 Q (F0 m 0 ls []) by rw [hH, hL] at hgoal; exact hgoal
  clear hH hL
  refine lv_aload_n hx hb dX8_sign_0 rfl (lv_at hl 0 rfl) ?_
  refine lv_iload_n hx hb dX8_sign_1 rfl (lv_at hl 1 rfl) ?_
  refine lv_iload_n hx hb dX8_sign_2 rfl (lv_at hl 1 rfl) ?_
  obtain ⟨q1, hq1, hf⟩ := ob hf
  refine cl_RV (As := [.int x1, .int x1]) (rest := []) hF hP hD (c_X8_isAt b x1 x1 S P Hd Tr Tx told pasts runs typed spot frm reas caus ords ordr q1 hq1) (cwV 2 hts gX8_sign_X8_isAt rfl rfl rfl (by decide +kernel) ⟨(Nat.le_of_ble_eq_true rfl), (Nat.le_of_ble_eq_true rfl)⟩) [0, 1, 2, 3, 4, 5, 6] rfl (by decide +kernel) (va_recv hK hP (ci := 8) (q0 := 0) rfl rfl) rfl rfl hl.1 (Nat.le_of_ble_eq_true rfl) dX8_sign_3 ⟨Nat.zero_le _, Nat.zero_le _⟩ ?_
  refine lv_istore_n (lv' := [(2, .int q1), (0, .ref (b 0)), (1, .int x1)]) hx hb dX8_sign_6 rfl hl (by decide) rfl (fun ls hl => ?_)
  refine lv_aload_n hx hb dX8_sign_7 rfl (lv_at hl 1 rfl) ?_
  refine lv_dup hx hb dX8_sign_8 rfl ?_
  refine va_get hx hb hts n8_ hown hK hP 0 rfl rfl 8 (Nat.le_of_ble_eq_true rfl) k1_ (fun _ h => h) rfl dX8_sign_9 ?_
  refine lv_iload_n hx hb dX8_sign_12 rfl (lv_at hl 0 rfl) ?_
  refine lv_if_eq (tgt := 20) hx hb dX8_sign_13 (by decide) (fun hc2 => ?_) (fun hc2 => ?_)
  · replace hf := it hc2 hf
    refine lv_iconst (v := (0 : Int32)) hx hb dX8_sign_20 (by decide) ?_
    exact J21 q1 (0 : Int32) spot spot H locs hP hD hS ls (lv_sub hl [0] rfl) hf
  · replace hf := ie hc2 hf
    refine lv_iconst (v := (1 : Int32)) hx hb dX8_sign_16 (by decide) ?_
    refine lv_goto (tgt := 21) hx hb dX8_sign_17 (by decide) ?_
    exact J21 q1 (1 : Int32) spot spot H locs hP hD hS ls (lv_sub hl [0] rfl) hf
abbrev rmX8_number : Room := { frames := 3, cells := 0, slots := 0, locals := 44 }
set_option maxHeartbeats 4000000 in
set_option maxRecDepth 100000 in
theorem c_X8_number (b : Nat → Nat) (x1 : Int32) (S : Nat → Int32) (P : Nat → Int32) (Hd : Nat → Int32) (Tr : Nat → Int32) (Tx : Nat → Int32) (told : Nat → Int32) (pasts : Int32) (runs : Int32) (typed : Int32) (spot : Int32) (frm : Int32) (reas : Int32) (caus : Int32) (ords : Int32) (ordr : Int32) (R : Int32 × (Nat → Int32) × Int32) (hf : f_X8_number x1 Tx told typed spot = some R) : WrI l yX8_number wsX8_number rmX8_number D cI cC (w_model cI cC b S P Hd Tr Tx told pasts runs typed spot frm reas caus ords ordr) (w_model cI cC b S P Hd Tr Tx R.2.1 pasts runs typed R.2.2 frm reas caus ords ordr) [.ref (b 0), .int x1] R.1 := by
  refine en_W (cc := cX8_number) (n := 3) (by decide) rfl (Nat.le_of_ble_eq_true rfl) ?_
  intro p e s m args below meth c Q AA ls hx hb hml hown hts hK hN hP hD hS hl ret
  have hown : s.vm.findClass RX8 = some m.cls := hown
  have hF : FX p m c cX8_number 3 s args wsX8_number RX8 D cI cC := ⟨⟨hx, hb, hml, hown, hts⟩, hK, hN⟩
  have hl : lv_has ls 3 [(0, .ref (b 0)), (1, .int x1)] := hl
  have k1_ := hts (.fieldLink RX8 125 "DriftGrindersModel" "spot" "I") (List.mem_of_getElem? (i := 1) rfl)
  have k2_ := hts (.fieldLink RX8 25 "DriftGrindersModel" "told" "[I") (List.mem_of_getElem? (i := 2) rfl)
  have k3_ := hts (.fieldLink RX8 22 "DriftGrindersModel" "text" "[I") (List.mem_of_getElem? (i := 3) rfl)
  have n8_ : ∀ w ∈ wsX80, w ∈ wsX8_number := fun _ h => List.mem_cons_of_mem _ (List.mem_append_right _ h)
  have J74 : ∀ (y2_74 : Int32) (told_74 : Nat → Int32) (spot_74 : Int32) (H : Heap) (locs : List Loc), va_P D vwCl (w_model cI cC b S P Hd Tr Tx told_74 pasts runs typed spot_74 frm reas caus ords ordr) H → va_D AA (w_model cI cC b S P Hd Tr Tx told_74 pasts runs typed spot_74 frm reas caus ords ordr) → va_S AA s.heap H locs → ∀ ls : Array Slot, lv_has ls 3 [(0, .ref (b 0)), (2, .int y2_74)] → f_X8_number_J74 Tx typed y2_74 told_74 spot_74 = some R → W p l e rmX8_number s m args below meth c H locs 0 0 Q (F0 m 74 ls []) := by
    intro y2_74 told_74 spot_74 H locs hP hD hS ls hl hf
    rw [f_X8_number_J74] at hf
    refine lv_aload_n hx hb dX8_number_74 rfl (lv_at hl 0 rfl) ?_
    refine va_get hx hb hts n8_ hown hK hP 0 rfl rfl 8 (Nat.le_of_ble_eq_true rfl) k1_ (fun _ h => h) rfl dX8_number_75 ?_
    refine lv_iload_n hx hb dX8_number_78 rfl (lv_at hl 1 rfl) ?_
    refine lv_icmp_le (tgt := 86) hx hb dX8_number_79 (by decide) (fun hc12 => ?_) (fun hc12 => ?_)
    · replace hf := it hc12 hf
      refine lv_iconst (v := (0 : Int32)) hx hb dX8_number_86 (by decide) ?_
      obtain rfl := Option.some.inj hf
      exact ret 87 ls _ H locs dX8_number_87 (by decide) rfl hP hS
    · replace hf := ie hc12 hf
      refine lv_iconst (v := (1 : Int32)) hx hb dX8_number_82 (by decide) ?_
      refine lv_goto (tgt := 87) hx hb dX8_number_83 (by decide) ?_
      obtain rfl := Option.some.inj hf
      exact ret 87 ls _ H locs dX8_number_87 (by decide) rfl hP hS
  have L12 : ∀ n12 : Nat, ∀ (y1_12 : Int32) (y2_12 : Int32) (told_12 : Nat → Int32) (spot_12 : Int32) (H : Heap) (locs : List Loc), va_P D vwCl (w_model cI cC b S P Hd Tr Tx told_12 pasts runs typed spot_12 frm reas caus ords ordr) H → va_D AA (w_model cI cC b S P Hd Tr Tx told_12 pasts runs typed spot_12 frm reas caus ords ordr) → va_S AA s.heap H locs → ∀ ls : Array Slot, lv_has ls 3 [(0, .ref (b 0)), (1, .int y1_12), (2, .int y2_12)] → f_X8_number_L12 Tx typed y1_12 y2_12 n12 told_12 spot_12 = some R → W p l e rmX8_number s m args below meth c H locs 0 0 Q (F0 m 12 ls []) := by
    intro n12
    induction n12 with
    | zero => intro y1_12 y2_12 told_12 spot_12 H locs hP hD hS ls hl hf; rw [f_X8_number_L12] at hf; cases hf
    | succ n12 IH12 =>
      intro y1_12 y2_12 told_12 spot_12 H locs hP hD hS ls hl hf
      rw [f_X8_number_L12] at hf
      refine lv_aload_n hx hb dX8_number_12 rfl (lv_at hl 0 rfl) ?_
      refine lv_bipush (v := (48 : Int32)) hx hb dX8_number_13 (by decide) ?_
      refine lv_bipush (v := (57 : Int32)) hx hb dX8_number_15 (by decide) ?_
      obtain ⟨q3, hq3, hf⟩ := ob hf
      refine cl_RV (As := [.int (48 : Int32), .int (57 : Int32)]) (rest := []) hF hP hD (c_X8_isAt b (48 : Int32) (57 : Int32) S P Hd Tr Tx told_12 pasts runs typed spot_12 frm reas caus ords ordr q3 hq3) (cwV 2 hts gX8_number_X8_isAt rfl rfl rfl (by decide +kernel) ⟨(Nat.le_of_ble_eq_true rfl), (Nat.le_of_ble_eq_true rfl)⟩) [0, 1, 2, 3, 4, 5, 6] rfl (by decide +kernel) (va_recv hK hP (ci := 8) (q0 := 0) rfl rfl) rfl rfl hl.1 (Nat.le_of_ble_eq_true rfl) dX8_number_17 ⟨Nat.zero_le _, Nat.zero_le _⟩ ?_
      refine lv_if_eq (tgt := 74) hx hb dX8_number_20 (by decide) (fun hc4 => ?_) (fun hc4 => ?_)
      · replace hf := it hc4 hf
        exact J74 y2_12 told_12 spot_12 H locs hP hD hS ls (lv_sub hl [0, 2] rfl) hf
      · replace hf := ie hc4 hf
        refine lv_aload_n hx hb dX8_number_23 rfl (lv_at hl 0 rfl) ?_
        refine va_get hx hb hts n8_ hown hK hP 0 rfl rfl 8 (Nat.le_of_ble_eq_true rfl) k1_ (fun _ h => h) rfl dX8_number_24 ?_
        refine lv_iload_n hx hb dX8_number_27 rfl (lv_at hl 2 rfl) ?_
        refine lv_isub hx hb dX8_number_28 ?_
        refine lv_iconst (v := (3 : Int32)) hx hb dX8_number_29 (by decide) ?_
        refine lv_icmp_ge (tgt := 74) hx hb dX8_number_30 (by decide) (fun hc5 => ?_) (fun hc5 => ?_)
        · replace hf := it hc5 hf
          exact J74 y2_12 told_12 spot_12 H locs hP hD hS ls (lv_sub hl [0, 2] rfl) hf
        · replace hf := ie hc5 hf
          refine lv_aload_n hx hb dX8_number_33 rfl (lv_at hl 0 rfl) ?_
          refine va_get hx hb hts n8_ hown hK hP 0 rfl rfl 14 (Nat.le_of_ble_eq_true rfl) k2_ (fun _ h => h) rfl dX8_number_34 ?_
          refine lv_iload_n hx hb dX8_number_37 rfl (lv_at hl 1 rfl) ?_
          refine lv_bipush (v := (10 : Int32)) hx hb dX8_number_38 (by decide) ?_
          refine lv_aload_n hx hb dX8_number_40 rfl (lv_at hl 0 rfl) ?_
          refine va_get hx hb hts n8_ hown hK hP 0 rfl rfl 14 (Nat.le_of_ble_eq_true rfl) k2_ (fun _ h => h) rfl dX8_number_41 ?_
          refine lv_iload_n hx hb dX8_number_44 rfl (lv_at hl 1 rfl) ?_
          obtain ⟨hg6, hf⟩ := gd_s hf
          refine va_iald hx hb hK hP 6 0 rfl rfl hg6 dX8_number_45 ?_
          refine lv_imul hx hb dX8_number_46 ?_
          refine lv_aload_n hx hb dX8_number_47 rfl (lv_at hl 0 rfl) ?_
          refine va_get hx hb hts n8_ hown hK hP 0 rfl rfl 6 (Nat.le_of_ble_eq_true rfl) k3_ (fun _ h => h) rfl dX8_number_48 ?_
          refine lv_aload_n hx hb dX8_number_51 rfl (lv_at hl 0 rfl) ?_
          refine va_get hx hb hts n8_ hown hK hP 0 rfl rfl 8 (Nat.le_of_ble_eq_true rfl) k1_ (fun _ h => h) rfl dX8_number_52 ?_
          obtain ⟨hg7, hf⟩ := gd_s hf
          refine va_iald hx hb hK hP 5 0 rfl rfl hg7 dX8_number_55 ?_
          refine lv_iadd hx hb dX8_number_56 ?_
          refine lv_bipush (v := (48 : Int32)) hx hb dX8_number_57 (by decide) ?_
          refine lv_isub hx hb dX8_number_59 ?_
          refine lv_topi (fun v8 ev8 => ?_)
          replace hf := lt_e ev8 hf
          obtain ⟨hg9, hf⟩ := gd_s hf
          refine x_iast hx hb hK hP hD hS 6 0 rfl rfl hg9 dX8_number_60 (fun Z10 H locs eZ10 hP hD hS => ?_)
          replace hf := lt_e eZ10 hf
          have hP : va_P D vwCl (w_model cI cC b S P Hd Tr Tx Z10 pasts runs typed spot_12 frm reas caus ords ordr) H := hP
          have hD : va_D AA (w_model cI cC b S P Hd Tr Tx Z10 pasts runs typed spot_12 frm reas caus ords ordr) := hD
          refine lv_aload_n hx hb dX8_number_61 rfl (lv_at hl 0 rfl) ?_
          refine lv_dup hx hb dX8_number_62 rfl ?_
          refine va_get hx hb hts n8_ hown hK hP 0 rfl rfl 8 (Nat.le_of_ble_eq_true rfl) k1_ (fun _ h => h) rfl dX8_number_63 ?_
          refine lv_iconst (v := (1 : Int32)) hx hb dX8_number_66 (by decide) ?_
          refine lv_iadd hx hb dX8_number_67 ?_
          refine lv_topi (fun v11 ev11 => ?_)
          replace hf := lt_e ev11 hf
          refine va_put hx hb hts n8_ tyX8 tyX8_ok nmX8 hown hK hP hD hS 0 rfl rfl 8 (Nat.le_of_ble_eq_true rfl) k1_ (fun _ h => h) rfl (v := .int v11) (tyX8_ok 8 (Nat.le_of_ble_eq_true rfl)) rfl rfl (Nat.le_of_ble_eq_true rfl) dX8_number_68 (fun H locs hP hD hS => ?_)
          have hP : va_P D vwCl (w_model cI cC b S P Hd Tr Tx Z10 pasts runs typed v11 frm reas caus ords ordr) H := hP
          have hD : va_D AA (w_model cI cC b S P Hd Tr Tx Z10 pasts runs typed v11 frm reas caus ords ordr) := hD
          refine lv_goto (tgt := 12) hx hb dX8_number_71 (by decide) ?_
          exact IH12 y1_12 y2_12 Z10 v11 H locs hP hD hS ls (lv_sub hl [0, 1, 2] rfl) hf
  rw [f_X8_number] at hf
  obtain ⟨H, hH⟩ : ∃ z : Heap, z = s.heap := ⟨_, rfl⟩
  obtain ⟨locs, hL⟩ : ∃ z : List Loc, z = [] := ⟨_, rfl⟩
  replace hP := hH ▸ hP
  replace hS : va_S AA s.heap H locs := by rw [hH, hL]; exact hS
  suffices hgoal : W p l e rmX8_number s m args below meth c H locs 0 0 Q (F0 m 0 ls []) by rw [hH, hL] at hgoal; exact hgoal
  clear hH hL
  refine lv_aload_n hx hb dX8_number_0 rfl (lv_at hl 0 rfl) ?_
  refine va_get hx hb hts n8_ hown hK hP 0 rfl rfl 8 (Nat.le_of_ble_eq_true rfl) k1_ (fun _ h => h) rfl dX8_number_1 ?_
  refine lv_istore_n (lv' := [(2, .int spot), (0, .ref (b 0)), (1, .int x1)]) hx hb dX8_number_4 rfl hl (by decide) rfl (fun ls hl => ?_)
  refine lv_aload_n hx hb dX8_number_5 rfl (lv_at hl 1 rfl) ?_
  refine va_get hx hb hts n8_ hown hK hP 0 rfl rfl 14 (Nat.le_of_ble_eq_true rfl) k2_ (fun _ h => h) rfl dX8_number_6 ?_
  refine lv_iload_n hx hb dX8_number_9 rfl (lv_at hl 2 rfl) ?_
  refine lv_iconst (v := (0 : Int32)) hx hb dX8_number_10 (by decide) ?_
  obtain ⟨hg1, hf⟩ := gd_s hf
  refine x_iast hx hb hK hP hD hS 6 0 rfl rfl hg1 dX8_number_11 (fun Z2 H locs eZ2 hP hD hS => ?_)
  replace hf := lt_e eZ2 hf
  have hP : va_P D vwCl (w_model cI cC b S P Hd Tr Tx Z2 pasts runs typed spot frm reas caus ords ordr) H := hP
  have hD : va_D AA (w_model cI cC b S P Hd Tr Tx Z2 pasts runs typed spot frm reas caus ords ordr) := hD
  exact L12 FU x1 spot Z2 spot H locs hP hD hS ls (lv_sub hl [1, 2, 0] rfl) hf
end
