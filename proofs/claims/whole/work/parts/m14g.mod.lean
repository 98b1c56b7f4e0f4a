section
variable {l : Launch} {D : va_G} {cI cC : ClassId}
abbrev rmX8_reads : Room := { frames := 4, cells := 0, slots := 0, locals := 66 }
set_option maxHeartbeats 4000000 in
set_option maxRecDepth 100000 in
theorem c_X8_reads (b : Nat → Nat) (S : Nat → Int32) (P : Nat → Int32) (Hd : Nat → Int32) (Tr : Nat → Int32) (Tx : Nat → Int32) (told : Nat → Int32) (pasts : Int32) (runs : Int32) (typed : Int32) (spot : Int32) (frm : Int32) (reas : Int32) (caus : Int32) (ords : Int32) (ordr : Int32) (R : Int32 × (Nat → Int32) × Int32 × Int32) (hf : f_X8_reads Tx told typed spot ordr = some R) : WrI l yX8_reads wsX8_reads rmX8_reads D cI cC (w_model cI cC b S P Hd Tr Tx told pasts runs typed spot frm reas caus ords ordr) (w_model cI cC b S P Hd Tr Tx R.2.1 pasts runs typed R.2.2.1 frm reas caus ords R.2.2.2) [.ref (b 0)] R.1 := by
  refine en_W (cc := cX8_reads) (n := 3) (by decide) rfl (Nat.le_of_ble_eq_true rfl) ?_
  intro p e s m args below meth c Q AA ls hx hb hml hown hts hK hN hP hD hS hl ret
  have hown : s.vm.findClass RX8 = some m.cls := hown
  have hF : FX p m c cX8_reads 3 s args wsX8_reads RX8 D cI cC := ⟨⟨hx, hb, hml, hown, hts⟩, hK, hN⟩
  have hl : lv_has ls 3 [(0, .ref (b 0))] := hl
  have k1_ := hts (.fieldLink RX8 22 "DriftGrindersModel" "text" "[I") (List.mem_of_getElem? (i := 1) rfl)
  have k2_ := hts (.fieldLink RX8 125 "DriftGrindersModel" "spot" "I") (List.mem_of_getElem? (i := 2) rfl)
  have k3_ := hts (.fieldLink RX8 132 "DriftGrindersModel" "order" "I") (List.mem_of_getElem? (i := 3) rfl)
  have n8_ : ∀ w ∈ wsX80, w ∈ wsX8_reads := fun _ h => List.mem_cons_of_mem _ (List.mem_append_right _ h)
  have J154 : ∀ (told_154 : Nat → Int32) (spot_154 : Int32) (ordr_154 : Int32) (H : Heap) (locs : List Loc), va_P D vwCl (w_model cI cC b S P Hd Tr Tx told_154 pasts runs typed spot_154 frm reas caus ords ordr_154) H → va_D AA (w_model cI cC b S P Hd Tr Tx told_154 pasts runs typed spot_154 frm reas caus ords ordr_154) → va_S AA s.heap H locs → ∀ ls : Array Slot, lv_has ls 3 [(0, .ref (b 0))] → f_X8_reads_J154 Tx typed told_154 spot_154 ordr_154 = some R → W p l e rmX8_reads s m args below meth c H locs 0 0 Q (F0 m 154 ls []) := by
    intro told_154 spot_154 ordr_154 H locs hP hD hS ls hl hf
    rw [f_X8_reads_J154] at hf
    refine lv_aload_n hx hb dX8_reads_154 rfl (lv_at hl 0 rfl) ?_
    refine lv_bipush (v := (59 : Int32)) hx hb dX8_reads_155 (by decide) ?_
    obtain ⟨q23, hq23, hf⟩ := ob hf
    refine cl_WV (W1 := (w_model cI cC b S P Hd Tr Tx told_154 pasts runs typed q23.2 frm reas caus ords ordr_154)) (As := [.int (59 : Int32)]) (rest := []) hF hP hD hS (c_X8_sign b (59 : Int32) S P Hd Tr Tx told_154 pasts runs typed spot_154 frm reas caus ords ordr_154 q23 hq23) (cwV 1 hts gX8_reads_X8_sign rfl rfl rfl (by decide +kernel) ⟨(Nat.le_of_ble_eq_true rfl), (Nat.le_of_ble_eq_true rfl)⟩) [0, 1, 2, 3, 4, 5, 6] rfl (by decide +kernel) (va_recv hK hP (ci := 8) (q0 := 0) rfl rfl) rfl rfl hl.1 (Nat.le_of_ble_eq_true rfl) dX8_reads_157 ⟨Nat.zero_le _, Nat.zero_le _⟩ (hA2 [(b 0), (b 1), (b 2), (b 3), (b 4), (b 5), (b 6)] rfl rfl) [] rfl [] rfl rfl (nW := 7) rfl (by decide +kernel) (fun H locs hP hD hS => ?_)
    refine lv_if_eq (tgt := 167) hx hb dX8_reads_160 (by decide) (fun hc24 => ?_) (fun hc24 => ?_)
    · replace hf := it hc24 hf
      refine lv_iconst (v := (0 : Int32)) hx hb dX8_reads_167 (by decide) ?_
      obtain rfl := Option.some.inj hf
      exact ret 168 ls _ H locs dX8_reads_168 (by decide) rfl hP hS
    · replace hf := ie hc24 hf
      refine lv_iconst (v := (1 : Int32)) hx hb dX8_reads_163 (by decide) ?_
      refine lv_goto (tgt := 168) hx hb dX8_reads_164 (by decide) ?_
      obtain rfl := Option.some.inj hf
      exact ret 168 ls _ H locs dX8_reads_168 (by decide) rfl hP hS
  have J104 : ∀ (y1_104 : Int32) (y2_104 : Int32) (told_104 : Nat → Int32) (spot_104 : Int32) (ordr_104 : Int32) (H : Heap) (locs : List Loc), va_P D vwCl (w_model cI cC b S P Hd Tr Tx told_104 pasts runs typed spot_104 frm reas caus ords ordr_104) H → va_D AA (w_model cI cC b S P Hd Tr Tx told_104 pasts runs typed spot_104 frm reas caus ords ordr_104) → va_S AA s.heap H locs → ∀ ls : Array Slot, lv_has ls 3 [(0, .ref (b 0)), (1, .int y1_104), (2, .int y2_104)] → f_X8_reads_J104 Tx typed y1_104 y2_104 told_104 spot_104 ordr_104 = some R → W p l e rmX8_reads s m args below meth c H locs 0 0 Q (F0 m 104 ls []) := by
    intro y1_104 y2_104 told_104 spot_104 ordr_104 H locs hP hD hS ls hl hf
    rw [f_X8_reads_J104] at hf
    refine lv_aload_n hx hb dX8_reads_104 rfl (lv_at hl 0 rfl) ?_
    refine lv_dup hx hb dX8_reads_105 rfl ?_
    refine va_get hx hb hts n8_ hown hK hP 0 rfl rfl 8 (Nat.le_of_ble_eq_true rfl) k2_ (fun _ h => h) rfl dX8_reads_106 ?_
    refine lv_iconst (v := (1 : Int32)) hx hb dX8_reads_109 (by decide) ?_
    refine lv_iadd hx hb dX8_reads_110 ?_
    refine lv_topi (fun v12 ev12 => ?_)
    replace hf := lt_e ev12 hf
    refine va_put hx hb hts n8_ tyX8 tyX8_ok nmX8 hown hK hP hD hS 0 rfl rfl 8 (Nat.le_of_ble_eq_true rfl) k2_ (fun _ h => h) rfl (v := .int v12) (tyX8_ok 8 (Nat.le_of_ble_eq_true rfl)) rfl rfl (Nat.le_of_ble_eq_true rfl) dX8_reads_111 (fun H locs hP hD hS => ?_)
    have hP : va_P D vwCl (w_model cI cC b S P Hd Tr Tx told_104 pasts runs typed v12 frm reas caus ords ordr_104) H := hP
    have hD : va_D AA (w_model cI cC b S P Hd Tr Tx told_104 pasts runs typed v12 frm reas caus ords ordr_104) := hD
    refine lv_iload_n hx hb dX8_reads_114 rfl (lv_at hl 2 rfl) ?_
    refine lv_if_eq (tgt := 125) hx hb dX8_reads_115 (by decide) (fun hc13 => ?_) (fun hc13 => ?_)
    · replace hf := it hc13 hf
      refine lv_aload_n hx hb dX8_reads_125 rfl (lv_at hl 0 rfl) ?_
      refine lv_iconst (v := (0 : Int32)) hx hb dX8_reads_126 (by decide) ?_
      obtain ⟨q14, hq14, hf⟩ := ob hf
      refine cl_WV (W1 := (w_model cI cC b S P Hd Tr Tx q14.2.1 pasts runs typed q14.2.2 frm reas caus ords ordr_104)) (As := [.int (0 : Int32)]) (rest := []) hF hP hD hS (c_X8_number b (0 : Int32) S P Hd Tr Tx told_104 pasts runs typed v12 frm reas caus ords ordr_104 q14 hq14) (cwV 1 hts gX8_reads_X8_number rfl rfl rfl (by decide +kernel) ⟨(Nat.le_of_ble_eq_true rfl), (Nat.le_of_ble_eq_true rfl)⟩) [0, 1, 2, 3, 4, 5, 6] rfl (by decide +kernel) (va_recv hK hP (ci := 8) (q0 := 0) rfl rfl) rfl rfl hl.1 (Nat.le_of_ble_eq_true rfl) dX8_reads_127 ⟨Nat.zero_le _, Nat.zero_le _⟩ (hA2 [(b 0), (b 1), (b 2), (b 3), (b 4), (b 5), (b 6)] rfl rfl) [] rfl [] rfl rfl (nW := 7) rfl (by decide +kernel) (fun H locs hP hD hS => ?_)
      refine lv_if_eq (tgt := 167) hx hb dX8_reads_130 (by decide) (fun hc15 => ?_) (fun hc15 => ?_)
      · replace hf := it hc15 hf
        refine lv_iconst (v := (0 : Int32)) hx hb dX8_reads_167 (by decide) ?_
        obtain rfl := Option.some.inj hf
        exact ret 168 ls _ H locs dX8_reads_168 (by decide) rfl hP hS
      · replace hf := ie hc15 hf
        refine lv_iload_n hx hb dX8_reads_133 rfl (lv_at hl 1 rfl) ?_
        refine lv_if_eq (tgt := 154) hx hb dX8_reads_134 (by decide) (fun hc16 => ?_) (fun hc16 => ?_)
        · replace hf := it hc16 hf
          exact J154 q14.2.1 q14.2.2 ordr_104 H locs hP hD hS ls (lv_sub hl [0] rfl) hf
        · replace hf := ie hc16 hf
          refine lv_aload_n hx hb dX8_reads_137 rfl (lv_at hl 0 rfl) ?_
          refine lv_bipush (v := (44 : Int32)) hx hb dX8_reads_138 (by decide) ?_
          obtain ⟨q17, hq17, hf⟩ := ob hf
          refine cl_WV (W1 := (w_model cI cC b S P Hd Tr Tx q14.2.1 pasts runs typed q17.2 frm reas caus ords ordr_104)) (As := [.int (44 : Int32)]) (rest := []) hF hP hD hS (c_X8_sign b (44 : Int32) S P Hd Tr Tx q14.2.1 pasts runs typed q14.2.2 frm reas caus ords ordr_104 q17 hq17) (cwV 1 hts gX8_reads_X8_sign rfl rfl rfl (by decide +kernel) ⟨(Nat.le_of_ble_eq_true rfl), (Nat.le_of_ble_eq_true rfl)⟩) [0, 1, 2, 3, 4, 5, 6] rfl (by decide +kernel) (va_recv hK hP (ci := 8) (q0 := 0) rfl rfl) rfl rfl hl.1 (Nat.le_of_ble_eq_true rfl) dX8_reads_140 ⟨Nat.zero_le _, Nat.zero_le _⟩ (hA2 [(b 0), (b 1), (b 2), (b 3), (b 4), (b 5), (b 6)] rfl rfl) [] rfl [] rfl rfl (nW := 7) rfl (by decide +kernel) (fun H locs hP hD hS => ?_)
          refine lv_if_eq (tgt := 167) hx hb dX8_reads_143 (by decide) (fun hc18 => ?_) (fun hc18 => ?_)
          · replace hf := it hc18 hf
            refine lv_iconst (v := (0 : Int32)) hx hb dX8_reads_167 (by decide) ?_
            obtain rfl := Option.some.inj hf
            exact ret 168 ls _ H locs dX8_reads_168 (by decide) rfl hP hS
          · replace hf := ie hc18 hf
            refine lv_aload_n hx hb dX8_reads_146 rfl (lv_at hl 0 rfl) ?_
            refine lv_iconst (v := (1 : Int32)) hx hb dX8_reads_147 (by decide) ?_
            obtain ⟨q19, hq19, hf⟩ := ob hf
            refine cl_WV (W1 := (w_model cI cC b S P Hd Tr Tx q19.2.1 pasts runs typed q19.2.2 frm reas caus ords ordr_104)) (As := [.int (1 : Int32)]) (rest := []) hF hP hD hS (c_X8_number b (1 : Int32) S P Hd Tr Tx q14.2.1 pasts runs typed q17.2 frm reas caus ords ordr_104 q19 hq19) (cwV 1 hts gX8_reads_X8_number rfl rfl rfl (by decide +kernel) ⟨(Nat.le_of_ble_eq_true rfl), (Nat.le_of_ble_eq_true rfl)⟩) [0, 1, 2, 3, 4, 5, 6] rfl (by decide +kernel) (va_recv hK hP (ci := 8) (q0 := 0) rfl rfl) rfl rfl hl.1 (Nat.le_of_ble_eq_true rfl) dX8_reads_148 ⟨Nat.zero_le _, Nat.zero_le _⟩ (hA2 [(b 0), (b 1), (b 2), (b 3), (b 4), (b 5), (b 6)] rfl rfl) [] rfl [] rfl rfl (nW := 7) rfl (by decide +kernel) (fun H locs hP hD hS => ?_)
            refine lv_if_eq (tgt := 167) hx hb dX8_reads_151 (by decide) (fun hc20 => ?_) (fun hc20 => ?_)
            · replace hf := it hc20 hf
              refine lv_iconst (v := (0 : Int32)) hx hb dX8_reads_167 (by decide) ?_
              obtain rfl := Option.some.inj hf
              exact ret 168 ls _ H locs dX8_reads_168 (by decide) rfl hP hS
            · replace hf := ie hc20 hf
              exact J154 q19.2.1 q19.2.2 ordr_104 H locs hP hD hS ls (lv_sub hl [0] rfl) hf
    · replace hf := ie hc13 hf
      refine lv_aload_n hx hb dX8_reads_118 rfl (lv_at hl 0 rfl) ?_
      refine lv_bipush (v := (59 : Int32)) hx hb dX8_reads_119 (by decide) ?_
      obtain ⟨q21, hq21, hf⟩ := ob hf
      refine cl_WV (W1 := (w_model cI cC b S P Hd Tr Tx told_104 pasts runs typed q21.2 frm reas caus ords ordr_104)) (As := [.int (59 : Int32)]) (rest := []) hF hP hD hS (c_X8_sign b (59 : Int32) S P Hd Tr Tx told_104 pasts runs typed v12 frm reas caus ords ordr_104 q21 hq21) (cwV 1 hts gX8_reads_X8_sign rfl rfl rfl (by decide +kernel) ⟨(Nat.le_of_ble_eq_true rfl), (Nat.le_of_ble_eq_true rfl)⟩) [0, 1, 2, 3, 4, 5, 6] rfl (by decide +kernel) (va_recv hK hP (ci := 8) (q0 := 0) rfl rfl) rfl rfl hl.1 (Nat.le_of_ble_eq_true rfl) dX8_reads_121 ⟨Nat.zero_le _, Nat.zero_le _⟩ (hA2 [(b 0), (b 1), (b 2), (b 3), (b 4), (b 5), (b 6)] rfl rfl) [] rfl [] rfl rfl (nW := 7) rfl (by decide +kernel) (fun H locs hP hD hS => ?_)
      obtain ⟨hg22, hf⟩ := gd_s hf
      obtain rfl := Option.some.inj hf
      exact ret 124 ls _ H locs dX8_reads_124 (zb_ok hg22) rfl hP hS
  have J84 : ∀ (y1_84 : Int32) (z0_84 : Int32) (told_84 : Nat → Int32) (spot_84 : Int32) (ordr_84 : Int32) (H : Heap) (locs : List Loc), va_P D vwCl (w_model cI cC b S P Hd Tr Tx told_84 pasts runs typed spot_84 frm reas caus ords ordr_84) H → va_D AA (w_model cI cC b S P Hd Tr Tx told_84 pasts runs typed spot_84 frm reas caus ords ordr_84) → va_S AA s.heap H locs → ∀ ls : Array Slot, lv_has ls 3 [(0, .ref (b 0)), (1, .int y1_84)] → f_X8_reads_J84 Tx typed y1_84 z0_84 told_84 spot_84 ordr_84 = some R → W p l e rmX8_reads s m args below meth c H locs 0 0 Q (F0 m 84 ls [.int z0_84]) := by
    intro y1_84 z0_84 told_84 spot_84 ordr_84 H locs hP hD hS ls hl hf
    rw [f_X8_reads_J84] at hf
    refine lv_istore_n (lv' := [(2, .int z0_84), (0, .ref (b 0)), (1, .int y1_84)]) hx hb dX8_reads_84 rfl hl (by decide) rfl (fun ls hl => ?_)
    refine lv_iload_n hx hb dX8_reads_85 rfl (lv_at hl 2 rfl) ?_
    refine lv_if_ne (tgt := 104) hx hb dX8_reads_86 (by decide) (fun hc9 => ?_) (fun hc9 => ?_)
    · replace hf := ie hc9 hf
      exact J104 y1_84 z0_84 told_84 spot_84 ordr_84 H locs hP hD hS ls (lv_sub hl [1, 2, 0] rfl) hf
    · replace hf := it hc9 hf
      refine lv_iload_n hx hb dX8_reads_89 rfl (lv_at hl 0 rfl) ?_
      refine lv_if_ne (tgt := 104) hx hb dX8_reads_90 (by decide) (fun hc10 => ?_) (fun hc10 => ?_)
      · replace hf := ie hc10 hf
        exact J104 y1_84 z0_84 told_84 spot_84 ordr_84 H locs hP hD hS ls (lv_sub hl [1, 2, 0] rfl) hf
      · replace hf := it hc10 hf
        refine lv_aload_n hx hb dX8_reads_93 rfl (lv_at hl 1 rfl) ?_
        refine va_get hx hb hts n8_ hown hK hP 0 rfl rfl 13 (Nat.le_of_ble_eq_true rfl) k3_ (fun _ h => h) rfl dX8_reads_94 ?_
        refine lv_bipush (v := (119 : Int32)) hx hb dX8_reads_97 (by decide) ?_
        refine lv_icmp_eq (tgt := 104) hx hb dX8_reads_99 (by decide) (fun hc11 => ?_) (fun hc11 => ?_)
        · replace hf := it hc11 hf
          exact J104 y1_84 z0_84 told_84 spot_84 ordr_84 H locs hP hD hS ls (lv_sub hl [1, 2, 0] rfl) hf
        · replace hf := ie hc11 hf
          refine lv_iconst (v := (0 : Int32)) hx hb dX8_reads_102 (by decide) ?_
          obtain rfl := Option.some.inj hf
          exact ret 103 ls _ H locs dX8_reads_103 (by decide) rfl hP hS
  have J79 : ∀ (y1_79 : Int32) (told_79 : Nat → Int32) (spot_79 : Int32) (ordr_79 : Int32) (H : Heap) (locs : List Loc), va_P D vwCl (w_model cI cC b S P Hd Tr Tx told_79 pasts runs typed spot_79 frm reas caus ords ordr_79) H → va_D AA (w_model cI cC b S P Hd Tr Tx told_79 pasts runs typed spot_79 frm reas caus ords ordr_79) → va_S AA s.heap H locs → ∀ ls : Array Slot, lv_has ls 3 [(0, .ref (b 0)), (1, .int y1_79)] → f_X8_reads_J79 Tx typed y1_79 told_79 spot_79 ordr_79 = some R → W p l e rmX8_reads s m args below meth c H locs 0 0 Q (F0 m 79 ls []) := by
    intro y1_79 told_79 spot_79 ordr_79 H locs hP hD hS ls hl hf
    rw [f_X8_reads_J79] at hf
    refine lv_iconst (v := (1 : Int32)) hx hb dX8_reads_79 (by decide) ?_
    refine lv_goto (tgt := 84) hx hb dX8_reads_80 (by decide) ?_
    exact J84 y1_79 (1 : Int32) told_79 spot_79 ordr_79 H locs hP hD hS ls (lv_sub hl [0, 1] rfl) hf
  have J60 : ∀ (z0_60 : Int32) (told_60 : Nat → Int32) (spot_60 : Int32) (ordr_60 : Int32) (H : Heap) (locs : List Loc), va_P D vwCl (w_model cI cC b S P Hd Tr Tx told_60 pasts runs typed spot_60 frm reas caus ords ordr_60) H → va_D AA (w_model cI cC b S P Hd Tr Tx told_60 pasts runs typed spot_60 frm reas caus ords ordr_60) → va_S AA s.heap H locs → ∀ ls : Array Slot, lv_has ls 3 [(0, .ref (b 0))] → f_X8_reads_J60 Tx typed z0_60 told_60 spot_60 ordr_60 = some R → W p l e rmX8_reads s m args below meth c H locs 0 0 Q (F0 m 60 ls [.int z0_60]) := by
    intro z0_60 told_60 spot_60 ordr_60 H locs hP hD hS ls hl hf
    rw [f_X8_reads_J60] at hf
    refine lv_istore_n (lv' := [(1, .int z0_60), (0, .ref (b 0))]) hx hb dX8_reads_60 rfl hl (by decide) rfl (fun ls hl => ?_)
    refine lv_aload_n hx hb dX8_reads_61 rfl (lv_at hl 1 rfl) ?_
    refine va_get hx hb hts n8_ hown hK hP 0 rfl rfl 13 (Nat.le_of_ble_eq_true rfl) k3_ (fun _ h => h) rfl dX8_reads_62 ?_
    refine lv_bipush (v := (115 : Int32)) hx hb dX8_reads_65 (by decide) ?_
    refine lv_icmp_eq (tgt := 79) hx hb dX8_reads_67 (by decide) (fun hc7 => ?_) (fun hc7 => ?_)
    · replace hf := it hc7 hf
      exact J79 z0_60 told_60 spot_60 ordr_60 H locs hP hD hS ls (lv_sub hl [1, 0] rfl) hf
    · replace hf := ie hc7 hf
      refine lv_aload_n hx hb dX8_reads_70 rfl (lv_at hl 1 rfl) ?_
      refine va_get hx hb hts n8_ hown hK hP 0 rfl rfl 13 (Nat.le_of_ble_eq_true rfl) k3_ (fun _ h => h) rfl dX8_reads_71 ?_
      refine lv_bipush (v := (112 : Int32)) hx hb dX8_reads_74 (by decide) ?_
      refine lv_icmp_ne (tgt := 83) hx hb dX8_reads_76 (by decide) (fun hc8 => ?_) (fun hc8 => ?_)
      · replace hf := ie hc8 hf
        refine lv_iconst (v := (0 : Int32)) hx hb dX8_reads_83 (by decide) ?_
        exact J84 z0_60 (0 : Int32) told_60 spot_60 ordr_60 H locs hP hD hS ls (lv_sub hl [1, 0] rfl) hf
      · replace hf := it hc8 hf
        exact J79 z0_60 told_60 spot_60 ordr_60 H locs hP hD hS ls (lv_sub hl [1, 0] rfl) hf
  have J55 : ∀ (told_55 : Nat → Int32) (spot_55 : Int32) (ordr_55 : Int32) (H : Heap) (locs : List Loc), va_P D vwCl (w_model cI cC b S P Hd Tr Tx told_55 pasts runs typed spot_55 frm reas caus ords ordr_55) H → va_D AA (w_model cI cC b S P Hd Tr Tx told_55 pasts runs typed spot_55 frm reas caus ords ordr_55) → va_S AA s.heap H locs → ∀ ls : Array Slot, lv_has ls 3 [(0, .ref (b 0))] → f_X8_reads_J55 Tx typed told_55 spot_55 ordr_55 = some R → W p l e rmX8_reads s m args below meth c H locs 0 0 Q (F0 m 55 ls []) := by
    intro told_55 spot_55 ordr_55 H locs hP hD hS ls hl hf
    rw [f_X8_reads_J55] at hf
    refine lv_iconst (v := (1 : Int32)) hx hb dX8_reads_55 (by decide) ?_
    refine lv_goto (tgt := 60) hx hb dX8_reads_56 (by decide) ?_
    exact J60 (1 : Int32) told_55 spot_55 ordr_55 H locs hP hD hS ls (lv_sub hl [0] rfl) hf
  have J25 : ∀ (z0_25 : Int32) (told_25 : Nat → Int32) (spot_25 : Int32) (ordr_25 : Int32) (H : Heap) (locs : List Loc), va_P D vwCl (w_model cI cC b S P Hd Tr Tx told_25 pasts runs typed spot_25 frm reas caus ords ordr_25) H → va_D AA (w_model cI cC b S P Hd Tr Tx told_25 pasts runs typed spot_25 frm reas caus ords ordr_25) → va_S AA s.heap H locs → ∀ ls : Array Slot, lv_has ls 3 [(0, .ref (b 0))] → f_X8_reads_J25 Tx typed z0_25 told_25 spot_25 ordr_25 = some R → W p l e rmX8_reads s m args below meth c H locs 0 0 Q (F0 m 25 ls [.int z0_25, .ref (b 0)]) := by
    intro z0_25 told_25 spot_25 ordr_25 H locs hP hD hS ls hl hf
    rw [f_X8_reads_J25] at hf
    refine va_put hx hb hts n8_ tyX8 tyX8_ok nmX8 hown hK hP hD hS 0 rfl rfl 13 (Nat.le_of_ble_eq_true rfl) k3_ (fun _ h => h) rfl (v := .int z0_25) (tyX8_ok 13 (Nat.le_of_ble_eq_true rfl)) rfl rfl (Nat.le_of_ble_eq_true rfl) dX8_reads_25 (fun H locs hP hD hS => ?_)
    have hP : va_P D vwCl (w_model cI cC b S P Hd Tr Tx told_25 pasts runs typed spot_25 frm reas caus ords z0_25) H := hP
    have hD : va_D AA (w_model cI cC b S P Hd Tr Tx told_25 pasts runs typed spot_25 frm reas caus ords z0_25) := hD
    refine lv_aload_n hx hb dX8_reads_28 rfl (lv_at hl 0 rfl) ?_
    refine va_get hx hb hts n8_ hown hK hP 0 rfl rfl 13 (Nat.le_of_ble_eq_true rfl) k3_ (fun _ h => h) rfl dX8_reads_29 ?_
    refine lv_bipush (v := (102 : Int32)) hx hb dX8_reads_32 (by decide) ?_
    refine lv_icmp_eq (tgt := 55) hx hb dX8_reads_34 (by decide) (fun hc4 => ?_) (fun hc4 => ?_)
    · replace hf := it hc4 hf
      exact J55 told_25 spot_25 z0_25 H locs hP hD hS ls (lv_sub hl [0] rfl) hf
    · replace hf := ie hc4 hf
      refine lv_aload_n hx hb dX8_reads_37 rfl (lv_at hl 0 rfl) ?_
      refine va_get hx hb hts n8_ hown hK hP 0 rfl rfl 13 (Nat.le_of_ble_eq_true rfl) k3_ (fun _ h => h) rfl dX8_reads_38 ?_
      refine lv_bipush (v := (103 : Int32)) hx hb dX8_reads_41 (by decide) ?_
      refine lv_icmp_eq (tgt := 55) hx hb dX8_reads_43 (by decide) (fun hc5 => ?_) (fun hc5 => ?_)
      · replace hf := it hc5 hf
        exact J55 told_25 spot_25 z0_25 H locs hP hD hS ls (lv_sub hl [0] rfl) hf
      · replace hf := ie hc5 hf
        refine lv_aload_n hx hb dX8_reads_46 rfl (lv_at hl 0 rfl) ?_
        refine va_get hx hb hts n8_ hown hK hP 0 rfl rfl 13 (Nat.le_of_ble_eq_true rfl) k3_ (fun _ h => h) rfl dX8_reads_47 ?_
        refine lv_bipush (v := (98 : Int32)) hx hb dX8_reads_50 (by decide) ?_
        refine lv_icmp_ne (tgt := 59) hx hb dX8_reads_52 (by decide) (fun hc6 => ?_) (fun hc6 => ?_)
        · replace hf := ie hc6 hf
          refine lv_iconst (v := (0 : Int32)) hx hb dX8_reads_59 (by decide) ?_
          exact J60 (0 : Int32) told_25 spot_25 z0_25 H locs hP hD hS ls (lv_sub hl [0] rfl) hf
        · replace hf := it hc6 hf
          exact J55 told_25 spot_25 z0_25 H locs hP hD hS ls (lv_sub hl [0] rfl) hf
  rw [f_X8_reads] at hf
  obtain ⟨H, hH⟩ : ∃ z : Heap, z = s.heap := ⟨_, rfl⟩
  obtain ⟨locs, hL⟩ : ∃ z : List Loc, z = [] := ⟨_, rfl⟩
  replace hP := hH ▸ hP
  replace hS : va_S AA s.heap H locs := by rw [hH, hL]; exact hS
  suffices hgoal : W p l e rmX8_reads s m args below meth c H locs 0 0 Q (F0 m 0 ls []) by rw [hH, hL] at hgoal; exact hgoal
  clear hH hL
  refine lv_aload_n hx hb dX8_reads_0 rfl (lv_at hl 0 rfl) ?_
  refine lv_aload_n hx hb dX8_reads_1 rfl (lv_at hl 0 rfl) ?_
  refine lv_bipush (v := (33 : Int32)) hx hb dX8_reads_2 (by decide) ?_
  refine lv_bipush (v := (126 : Int32)) hx hb dX8_reads_4 (by decide) ?_
  obtain ⟨q1, hq1, hf⟩ := ob hf
  refine cl_RV (As := [.int (33 : Int32), .int (126 : Int32)]) (rest := [.ref (b 0)]) hF hP hD (c_X8_isAt b (33 : Int32) (126 : Int32) S P Hd Tr Tx told pasts runs typed spot frm reas caus ords ordr q1 hq1) (cwV 2 hts gX8_reads_X8_isAt rfl rfl rfl (by decide +kernel) ⟨(Nat.le_of_ble_eq_true rfl), (Nat.le_of_ble_eq_true rfl)⟩) [0, 1, 2, 3, 4, 5, 6] rfl (by decide +kernel) (va_recv hK hP (ci := 8) (q0 := 0) rfl rfl) rfl rfl hl.1 (Nat.le_of_ble_eq_true rfl) dX8_reads_6 ⟨Nat.zero_le _, Nat.zero_le _⟩ ?_
  refine lv_if_eq (tgt := 24) hx hb dX8_reads_9 (by decide) (fun hc2 => ?_) (fun hc2 => ?_)
  · replace hf := it hc2 hf
    refine lv_iconst (v := (0 : Int32)) hx hb dX8_reads_24 (by decide) ?_
    exact J25 (0 : Int32) told spot ordr H locs hP hD hS ls (lv_sub hl [0] rfl) hf
  · replace hf := ie hc2 hf
    refine lv_aload_n hx hb dX8_reads_12 rfl (lv_at hl 0 rfl) ?_
    refine va_get hx hb hts n8_ hown hK hP 0 rfl rfl 6 (Nat.le_of_ble_eq_true rfl) k1_ (fun _ h => h) rfl dX8_reads_13 ?_
    refine lv_aload_n hx hb dX8_reads_16 rfl (lv_at hl 0 rfl) ?_
    refine va_get hx hb hts n8_ hown hK hP 0 rfl rfl 8 (Nat.le_of_ble_eq_true rfl) k2_ (fun _ h => h) rfl dX8_reads_17 ?_
    obtain ⟨hg3, hf⟩ := gd_s hf
    refine va_iald hx hb hK hP 5 0 rfl rfl hg3 dX8_reads_20 ?_
    refine lv_goto (tgt := 25) hx hb dX8_reads_21 (by decide) ?_
    exact J25 (Tx spot.toNatClampNeg) told spot ordr H locs hP hD hS ls (lv_sub hl [0] rfl) hf
abbrev rmX8_calls : Room := { frames := 6, cells := 0, slots := 0, locals := 116 }
set_option maxHeartbeats 4000000 in
set_option maxRecDepth 100000 in
theorem c_X8_calls (b : Nat → Nat) (S : Nat → Int32) (P : Nat → Int32) (Hd : Nat → Int32) (Tr : Nat → Int32) (Tx : Nat → Int32) (told : Nat → Int32) (pasts : Int32) (runs : Int32) (typed : Int32) (spot : Int32) (frm : Int32) (reas : Int32) (caus : Int32) (ords : Int32) (ordr : Int32) (R : Int32 × (Nat → Int32) × (Nat → Int32) × Int32) (hf : f_X8_calls S P told pasts runs ordr = some R) : WrI l yX8_calls wsX8_calls rmX8_calls D cI cC (w_model cI cC b S P Hd Tr Tx told pasts runs typed spot frm reas caus ords ordr) (w_model cI cC b R.2.1 R.2.2.1 Hd Tr Tx told R.2.2.2 runs typed spot frm reas caus ords ordr) [.ref (b 0)] R.1 := by
  refine en_W (cc := cX8_calls) (n := 1) (by decide) rfl (Nat.le_of_ble_eq_true rfl) ?_
  intro p e s m args below meth c Q AA ls hx hb hml hown hts hK hN hP hD hS hl ret
  have hown : s.vm.findClass RX8 = some m.cls := hown
  have hF : FX p m c cX8_calls 1 s args wsX8_calls RX8 D cI cC := ⟨⟨hx, hb, hml, hown, hts⟩, hK, hN⟩
  have hl : lv_has ls 1 [(0, .ref (b 0))] := hl
  have k1_ := hts (.fieldLink RX8 132 "DriftGrindersModel" "order" "I") (List.mem_of_getElem? (i := 1) rfl)
  have k2_ := hts (.fieldLink RX8 25 "DriftGrindersModel" "told" "[I") (List.mem_of_getElem? (i := 2) rfl)
  have n8_ : ∀ w ∈ wsX80, w ∈ wsX8_calls := fun _ h => List.mem_cons_of_mem _ (List.mem_append_right _ h)
  rw [f_X8_calls] at hf
  obtain ⟨H, hH⟩ : ∃ z : Heap, z = s.heap := ⟨_, rfl⟩
  obtain ⟨locs, hL⟩ : ∃ z : List Loc, z = [] := ⟨_, rfl⟩
  replace hP := hH ▸ hP
  replace hS : va_S AA s.heap H locs := by rw [hH, hL]; exact hS
  suffices hgoal : W p l e rmX8_calls s m args below meth c H locs 0 0 Q (F0 m 0 ls []) by rw [hH, hL] at hgoal; exact hgoal
  clear hH hL
  refine lv_aload_n hx hb dX8_calls_0 rfl (lv_at hl 0 rfl) ?_
  refine va_get hx hb hts n8_ hown hK hP 0 rfl rfl 13 (Nat.le_of_ble_eq_true rfl) k1_ (fun _ h => h) rfl dX8_calls_1 ?_
  by_cases hc1 : ordr = 98
  · replace hf := it hc1 hf
    refine lv_lookup (off := 86) (tgt := 90) hx hb dX8_calls_4 (by decide) (by rw [hc1]; decide) (by decide) ?_
    refine lv_aload_n hx hb dX8_calls_90 rfl (lv_at hl 0 rfl) ?_
    refine lv_aload_n hx hb dX8_calls_91 rfl (lv_at hl 0 rfl) ?_
    refine va_get hx hb hts n8_ hown hK hP 0 rfl rfl 14 (Nat.le_of_ble_eq_true rfl) k2_ (fun _ h => h) rfl dX8_calls_92 ?_
    refine lv_iconst (v := (0 : Int32)) hx hb dX8_calls_95 (by decide) ?_
    refine va_iald hx hb hK hP 6 0 rfl rfl (show ¬ ((0 : Int32) < 0 ∨ 2 ≤ (0 : Int32).toNatClampNeg) by decide) dX8_calls_96 ?_
    refine lv_aload_n hx hb dX8_calls_97 rfl (lv_at hl 0 rfl) ?_
    refine va_get hx hb hts n8_ hown hK hP 0 rfl rfl 14 (Nat.le_of_ble_eq_true rfl) k2_ (fun _ h => h) rfl dX8_calls_98 ?_
    refine lv_iconst (v := (1 : Int32)) hx hb dX8_calls_101 (by decide) ?_
    refine va_iald hx hb hK hP 6 0 rfl rfl (show ¬ ((1 : Int32) < 0 ∨ 2 ≤ (1 : Int32).toNatClampNeg) by decide) dX8_calls_102 ?_
    obtain ⟨q2, hq2, hf⟩ := ob hf
    refine cl_WV (W1 := (w_model cI cC b q2.2.1 q2.2.2.1 Hd Tr Tx told q2.2.2.2 runs typed spot frm reas caus ords ordr)) (As := [.int (told (0 : Int32).toNatClampNeg), .int (told (1 : Int32).toNatClampNeg)]) (rest := []) hF hP hD hS (c_X8_dial b (told (0 : Int32).toNatClampNeg) (told (1 : Int32).toNatClampNeg) S P Hd Tr Tx told pasts runs typed spot frm reas caus ords ordr q2 hq2) (cwV 2 hts gX8_calls_X8_dial rfl rfl rfl (by decide +kernel) ⟨(Nat.le_of_ble_eq_true rfl), (Nat.le_of_ble_eq_true rfl)⟩) [0, 1, 2, 3, 4, 5, 6] rfl (by decide +kernel) (va_recv hK hP (ci := 8) (q0 := 0) rfl rfl) rfl rfl hl.1 (Nat.le_of_ble_eq_true rfl) dX8_calls_103 ⟨Nat.zero_le _, Nat.zero_le _⟩ (hA2 [(b 0), (b 1), (b 2), (b 3), (b 4), (b 5), (b 6)] rfl rfl) [] rfl [] rfl rfl (nW := 7) rfl (by decide +kernel) (fun H locs hP hD hS => ?_)
    obtain rfl := Option.some.inj hf
    exact ret 106 ls _ H locs dX8_calls_106 rfl rfl hP hS
  replace hf := ie hc1 hf
  by_cases hc3 : ordr = 102
  · replace hf := it hc3 hf
    refine lv_lookup (off := 52) (tgt := 56) hx hb dX8_calls_4 (by decide) (by rw [hc3]; decide) (by decide) ?_
    refine lv_aload_n hx hb dX8_calls_56 rfl (lv_at hl 0 rfl) ?_
    refine lv_aload_n hx hb dX8_calls_57 rfl (lv_at hl 0 rfl) ?_
    refine va_get hx hb hts n8_ hown hK hP 0 rfl rfl 14 (Nat.le_of_ble_eq_true rfl) k2_ (fun _ h => h) rfl dX8_calls_58 ?_
    refine lv_iconst (v := (0 : Int32)) hx hb dX8_calls_61 (by decide) ?_
    refine va_iald hx hb hK hP 6 0 rfl rfl (show ¬ ((0 : Int32) < 0 ∨ 2 ≤ (0 : Int32).toNatClampNeg) by decide) dX8_calls_62 ?_
    refine lv_aload_n hx hb dX8_calls_63 rfl (lv_at hl 0 rfl) ?_
    refine va_get hx hb hts n8_ hown hK hP 0 rfl rfl 14 (Nat.le_of_ble_eq_true rfl) k2_ (fun _ h => h) rfl dX8_calls_64 ?_
    refine lv_iconst (v := (1 : Int32)) hx hb dX8_calls_67 (by decide) ?_
    refine va_iald hx hb hK hP 6 0 rfl rfl (show ¬ ((1 : Int32) < 0 ∨ 2 ≤ (1 : Int32).toNatClampNeg) by decide) dX8_calls_68 ?_
    obtain ⟨q4, hq4, hf⟩ := ob hf
    refine cl_WV (W1 := (w_model cI cC b q4.2.1 q4.2.2.1 Hd Tr Tx told q4.2.2.2 runs typed spot frm reas caus ords ordr)) (As := [.int (told (0 : Int32).toNatClampNeg), .int (told (1 : Int32).toNatClampNeg)]) (rest := []) hF hP hD hS (c_X8_fill b (told (0 : Int32).toNatClampNeg) (told (1 : Int32).toNatClampNeg) S P Hd Tr Tx told pasts runs typed spot frm reas caus ords ordr q4 hq4) (cwV 2 hts gX8_calls_X8_fill rfl rfl rfl (by decide +kernel) ⟨(Nat.le_of_ble_eq_true rfl), (Nat.le_of_ble_eq_true rfl)⟩) [0, 1, 2, 3, 4, 5, 6] rfl (by decide +kernel) (va_recv hK hP (ci := 8) (q0 := 0) rfl rfl) rfl rfl hl.1 (Nat.le_of_ble_eq_true rfl) dX8_calls_69 ⟨Nat.zero_le _, Nat.zero_le _⟩ (hA2 [(b 0), (b 1), (b 2), (b 3), (b 4), (b 5), (b 6)] rfl rfl) [] rfl [] rfl rfl (nW := 7) rfl (by decide +kernel) (fun H locs hP hD hS => ?_)
    obtain rfl := Option.some.inj hf
    exact ret 72 ls _ H locs dX8_calls_72 rfl rfl hP hS
  replace hf := ie hc3 hf
  by_cases hc5 : ordr = 103
  · replace hf := it hc5 hf
    refine lv_lookup (off := 69) (tgt := 73) hx hb dX8_calls_4 (by decide) (by rw [hc5]; decide) (by decide) ?_
    refine lv_aload_n hx hb dX8_calls_73 rfl (lv_at hl 0 rfl) ?_
    refine lv_aload_n hx hb dX8_calls_74 rfl (lv_at hl 0 rfl) ?_
    refine va_get hx hb hts n8_ hown hK hP 0 rfl rfl 14 (Nat.le_of_ble_eq_true rfl) k2_ (fun _ h => h) rfl dX8_calls_75 ?_
    refine lv_iconst (v := (0 : Int32)) hx hb dX8_calls_78 (by decide) ?_
    refine va_iald hx hb hK hP 6 0 rfl rfl (show ¬ ((0 : Int32) < 0 ∨ 2 ≤ (0 : Int32).toNatClampNeg) by decide) dX8_calls_79 ?_
    refine lv_aload_n hx hb dX8_calls_80 rfl (lv_at hl 0 rfl) ?_
    refine va_get hx hb hts n8_ hown hK hP 0 rfl rfl 14 (Nat.le_of_ble_eq_true rfl) k2_ (fun _ h => h) rfl dX8_calls_81 ?_
    refine lv_iconst (v := (1 : Int32)) hx hb dX8_calls_84 (by decide) ?_
    refine va_iald hx hb hK hP 6 0 rfl rfl (show ¬ ((1 : Int32) < 0 ∨ 2 ≤ (1 : Int32).toNatClampNeg) by decide) dX8_calls_85 ?_
    obtain ⟨q6, hq6, hf⟩ := ob hf
    refine cl_WV (W1 := (w_model cI cC b q6.2.1 q6.2.2.1 Hd Tr Tx told q6.2.2.2 runs typed spot frm reas caus ords ordr)) (As := [.int (told (0 : Int32).toNatClampNeg), .int (told (1 : Int32).toNatClampNeg)]) (rest := []) hF hP hD hS (c_X8_grind b (told (0 : Int32).toNatClampNeg) (told (1 : Int32).toNatClampNeg) S P Hd Tr Tx told pasts runs typed spot frm reas caus ords ordr q6 hq6) (cwV 2 hts gX8_calls_X8_grind rfl rfl rfl (by decide +kernel) ⟨(Nat.le_of_ble_eq_true rfl), (Nat.le_of_ble_eq_true rfl)⟩) [0, 1, 2, 3, 4, 5, 6] rfl (by decide +kernel) (va_recv hK hP (ci := 8) (q0 := 0) rfl rfl) rfl rfl hl.1 (Nat.le_of_ble_eq_true rfl) dX8_calls_86 ⟨Nat.zero_le _, Nat.zero_le _⟩ (hA2 [(b 0), (b 1), (b 2), (b 3), (b 4), (b 5), (b 6)] rfl rfl) [] rfl [] rfl rfl (nW := 7) rfl (by decide +kernel) (fun H locs hP hD hS => ?_)
    obtain rfl := Option.some.inj hf
    exact ret 89 ls _ H locs dX8_calls_89 rfl rfl hP hS
  replace hf := ie hc5 hf
  by_cases hc7 : ordr = 115
  · replace hf := it hc7 hf
    refine lv_lookup (off := 114) (tgt := 118) hx hb dX8_calls_4 (by decide) (by rw [hc7]; decide) (by decide) ?_
    refine lv_aload_n hx hb dX8_calls_118 rfl (lv_at hl 0 rfl) ?_
    obtain ⟨q8, hq8, hf⟩ := ob hf
    refine cl_WV (W1 := (w_model cI cC b q8.2.1 q8.2.2.1 Hd Tr Tx told q8.2.2.2 runs typed spot frm reas caus ords ordr)) (As := []) (rest := []) hF hP hD hS (c_X8_shot b S P Hd Tr Tx told pasts runs typed spot frm reas caus ords ordr q8 hq8) (cwV 0 hts gX8_calls_X8_shot rfl rfl rfl (by decide +kernel) ⟨(Nat.le_of_ble_eq_true rfl), (Nat.le_of_ble_eq_true rfl)⟩) [0, 1, 2, 3, 4, 5, 6] rfl (by decide +kernel) (va_recv hK hP (ci := 8) (q0 := 0) rfl rfl) rfl rfl hl.1 (Nat.le_of_ble_eq_true rfl) dX8_calls_119 ⟨Nat.zero_le _, Nat.zero_le _⟩ (hA2 [(b 0), (b 1), (b 2), (b 3), (b 4), (b 5), (b 6)] rfl rfl) [] rfl [] rfl rfl (nW := 7) rfl (by decide +kernel) (fun H locs hP hD hS => ?_)
    obtain rfl := Option.some.inj hf
    exact ret 122 ls _ H locs dX8_calls_122 rfl rfl hP hS
  replace hf := ie hc7 hf
  by_cases hc9 : ordr = 119
  · replace hf := it hc9 hf
    refine lv_lookup (off := 103) (tgt := 107) hx hb dX8_calls_4 (by decide) (by rw [hc9]; decide) (by decide) ?_
    refine lv_aload_n hx hb dX8_calls_107 rfl (lv_at hl 0 rfl) ?_
    refine lv_aload_n hx hb dX8_calls_108 rfl (lv_at hl 0 rfl) ?_
    refine va_get hx hb hts n8_ hown hK hP 0 rfl rfl 14 (Nat.le_of_ble_eq_true rfl) k2_ (fun _ h => h) rfl dX8_calls_109 ?_
    refine lv_iconst (v := (0 : Int32)) hx hb dX8_calls_112 (by decide) ?_
    refine va_iald hx hb hK hP 6 0 rfl rfl (show ¬ ((0 : Int32) < 0 ∨ 2 ≤ (0 : Int32).toNatClampNeg) by decide) dX8_calls_113 ?_
    obtain ⟨q10, hq10, hf⟩ := ob hf
    refine cl_WV (W1 := (w_model cI cC b q10.2.1 q10.2.2.1 Hd Tr Tx told q10.2.2.2 runs typed spot frm reas caus ords ordr)) (As := [.int (told (0 : Int32).toNatClampNeg)]) (rest := []) hF hP hD hS (c_X8_rest b (told (0 : Int32).toNatClampNeg) S P Hd Tr Tx told pasts runs typed spot frm reas caus ords ordr q10 hq10) (cwV 1 hts gX8_calls_X8_rest rfl rfl rfl (by decide +kernel) ⟨(Nat.le_of_ble_eq_true rfl), (Nat.le_of_ble_eq_true rfl)⟩) [0, 1, 2, 3, 4, 5, 6] rfl (by decide +kernel) (va_recv hK hP (ci := 8) (q0 := 0) rfl rfl) rfl rfl hl.1 (Nat.le_of_ble_eq_true rfl) dX8_calls_114 ⟨Nat.zero_le _, Nat.zero_le _⟩ (hA2 [(b 0), (b 1), (b 2), (b 3), (b 4), (b 5), (b 6)] rfl rfl) [] rfl [] rfl rfl (nW := 7) rfl (by decide +kernel) (fun H locs hP hD hS => ?_)
    obtain rfl := Option.some.inj hf
    exact ret 117 ls _ H locs dX8_calls_117 rfl rfl hP hS
  replace hf := ie hc9 hf
  refine lv_lookup (off := 119) (tgt := 123) hx hb dX8_calls_4 (by decide) (by show Op.lookupswitch.offset [(98, 86), (102, 52), (103, 69), (115, 114), (119, 103)] 119 ordr.toInt = _; rw [lv_osw (a := 98) hc1 rfl, lv_osw (a := 102) hc3 rfl, lv_osw (a := 103) hc5 rfl, lv_osw (a := 115) hc7 rfl, lv_osw (a := 119) hc9 rfl]; rfl) (by decide) ?_
  refine lv_aload_n hx hb dX8_calls_123 rfl (lv_at hl 0 rfl) ?_
  obtain ⟨q11, hq11, hf⟩ := ob hf
  refine cl_WV (W1 := (w_model cI cC b q11.2.1 q11.2.2.1 Hd Tr Tx told q11.2.2.2 runs typed spot frm reas caus ords ordr)) (As := []) (rest := []) hF hP hD hS (c_X8_purge b S P Hd Tr Tx told pasts runs typed spot frm reas caus ords ordr q11 hq11) (cwV 0 hts gX8_calls_X8_purge rfl rfl rfl (by decide +kernel) ⟨(Nat.le_of_ble_eq_true rfl), (Nat.le_of_ble_eq_true rfl)⟩) [0, 1, 2, 3, 4, 5, 6] rfl (by decide +kernel) (va_recv hK hP (ci := 8) (q0 := 0) rfl rfl) rfl rfl hl.1 (Nat.le_of_ble_eq_true rfl) dX8_calls_124 ⟨Nat.zero_le _, Nat.zero_le _⟩ (hA2 [(b 0), (b 1), (b 2), (b 3), (b 4), (b 5), (b 6)] rfl rfl) [] rfl [] rfl rfl (nW := 7) rfl (by decide +kernel) (fun H locs hP hD hS => ?_)
  obtain rfl := Option.some.inj hf
  exact ret 127 ls _ H locs dX8_calls_127 rfl rfl hP hS
abbrev rmX8_plays : Room := { frames := 7, cells := 0, slots := 0, locals := 136 }
set_option maxHeartbeats 4000000 in
set_option maxRecDepth 100000 in
theorem c_X8_plays (b : Nat → Nat) (S : Nat → Int32) (P : Nat → Int32) (Hd : Nat → Int32) (Tr : Nat → Int32) (Tx : Nat → Int32) (told : Nat → Int32) (pasts : Int32) (runs : Int32) (typed : Int32) (spot : Int32) (frm : Int32) (reas : Int32) (caus : Int32) (ords : Int32) (ordr : Int32) (R : Int32 × (Nat → Int32) × (Nat → Int32) × (Nat → Int32) × Int32 × Int32 × Int32 × Int32 × Int32 × Int32 × Int32 × Int32) (hf : f_X8_plays S P Tx told pasts runs typed spot frm reas caus ords ordr = some R) : WrI l yX8_plays wsX8_plays rmX8_plays D cI cC (w_model cI cC b S P Hd Tr Tx told pasts runs typed spot frm reas caus ords ordr) (w_model cI cC b R.2.1 R.2.2.1 Hd Tr Tx R.2.2.2.1 R.2.2.2.2.1 R.2.2.2.2.2.1 typed R.2.2.2.2.2.2.1 R.2.2.2.2.2.2.2.1 R.2.2.2.2.2.2.2.2.1 R.2.2.2.2.2.2.2.2.2.1 R.2.2.2.2.2.2.2.2.2.2.1 R.2.2.2.2.2.2.2.2.2.2.2) [.ref (b 0)] R.1 := by
  refine en_W (cc := cX8_plays) (n := 4) (by decide) rfl (Nat.le_of_ble_eq_true rfl) ?_
  intro p e s m args below meth c Q AA ls hx hb hml hown hts hK hN hP hD hS hl ret
  have hown : s.vm.findClass RX8 = some m.cls := hown
  have hF : FX p m c cX8_plays 4 s args wsX8_plays RX8 D cI cC := ⟨⟨hx, hb, hml, hown, hts⟩, hK, hN⟩
  have hl : lv_has ls 4 [(0, .ref (b 0))] := hl
  have k1_ := hts (.fieldLink RX8 32 "DriftGrindersModel" "runs" "Z") (List.mem_of_getElem? (i := 1) rfl)
  have k2_ := hts (.fieldLink RX8 125 "DriftGrindersModel" "spot" "I") (List.mem_of_getElem? (i := 2) rfl)
  have k3_ := hts (.fieldLink RX8 159 "DriftGrindersModel" "from" "I") (List.mem_of_getElem? (i := 3) rfl)
  have k4_ := hts (.fieldLink RX8 162 "DriftGrindersModel" "orders" "I") (List.mem_of_getElem? (i := 4) rfl)
  have k5_ := hts (.fieldLink RX8 122 "DriftGrindersModel" "typed" "I") (List.mem_of_getElem? (i := 5) rfl)
  have k6_ := hts (.fieldLink RX8 172 "DriftGrindersModel" "reason" "I") (List.mem_of_getElem? (i := 6) rfl)
  have k7_ := hts (.fieldLink RX8 175 "DriftGrindersModel" "cause" "I") (List.mem_of_getElem? (i := 7) rfl)
  have n8_ : ∀ w ∈ wsX80, w ∈ wsX8_plays := fun _ h => List.mem_cons_of_mem _ (List.mem_append_right _ h)
  have J124 : ∀ (y1_124 : Int32) (S_124 : Nat → Int32) (P_124 : Nat → Int32) (told_124 : Nat → Int32) (pasts_124 : Int32) (runs_124 : Int32) (spot_124 : Int32) (frm_124 : Int32) (reas_124 : Int32) (caus_124 : Int32) (ords_124 : Int32) (ordr_124 : Int32) (H : Heap) (locs : List Loc), va_P D vwCl (w_model cI cC b S_124 P_124 Hd Tr Tx told_124 pasts_124 runs_124 typed spot_124 frm_124 reas_124 caus_124 ords_124 ordr_124) H → va_D AA (w_model cI cC b S_124 P_124 Hd Tr Tx told_124 pasts_124 runs_124 typed spot_124 frm_124 reas_124 caus_124 ords_124 ordr_124) → va_S AA s.heap H locs → ∀ ls : Array Slot, lv_has ls 4 [(0, .ref (b 0)), (1, .int y1_124)] → f_X8_plays_J124 Tx typed y1_124 S_124 P_124 told_124 pasts_124 runs_124 spot_124 frm_124 reas_124 caus_124 ords_124 ordr_124 = some R → W p l e rmX8_plays s m args below meth c H locs 0 0 Q (F0 m 124 ls []) := by
    intro y1_124 S_124 P_124 told_124 pasts_124 runs_124 spot_124 frm_124 reas_124 caus_124 ords_124 ordr_124 H locs hP hD hS ls hl hf
    rw [f_X8_plays_J124] at hf
    refine lv_aload_n hx hb dX8_plays_124 rfl (lv_at hl 0 rfl) ?_
    refine lv_iconst (v := (0 : Int32)) hx hb dX8_plays_125 (by decide) ?_
    refine va_put hx hb hts n8_ tyX8 tyX8_ok nmX8 hown hK hP hD hS 0 rfl rfl 5 (Nat.le_of_ble_eq_true rfl) k1_ (fun _ h => h) rfl (v := .int (0 : Int32)) (tyX8_ok 5 (Nat.le_of_ble_eq_true rfl)) (by decide) (by decide) (Nat.le_of_ble_eq_true rfl) dX8_plays_126 (fun H locs hP hD hS => ?_)
    have hP : va_P D vwCl (w_model cI cC b S_124 P_124 Hd Tr Tx told_124 pasts_124 (0 : Int32) typed spot_124 frm_124 reas_124 caus_124 ords_124 ordr_124) H := hP
    have hD : va_D AA (w_model cI cC b S_124 P_124 Hd Tr Tx told_124 pasts_124 (0 : Int32) typed spot_124 frm_124 reas_124 caus_124 ords_124 ordr_124) := hD
    refine lv_iload_n hx hb dX8_plays_129 rfl (lv_at hl 1 rfl) ?_
    obtain ⟨hg6, hf⟩ := gd_s hf
    obtain rfl := Option.some.inj hf
    exact ret 130 ls _ H locs dX8_plays_130 (zb_ok hg6) rfl hP hS
  have L22 : ∀ n22 : Nat, ∀ (y1_22 : Int32) (S_22 : Nat → Int32) (P_22 : Nat → Int32) (told_22 : Nat → Int32) (pasts_22 : Int32) (runs_22 : Int32) (spot_22 : Int32) (frm_22 : Int32) (reas_22 : Int32) (caus_22 : Int32) (ords_22 : Int32) (ordr_22 : Int32) (H : Heap) (locs : List Loc), va_P D vwCl (w_model cI cC b S_22 P_22 Hd Tr Tx told_22 pasts_22 runs_22 typed spot_22 frm_22 reas_22 caus_22 ords_22 ordr_22) H → va_D AA (w_model cI cC b S_22 P_22 Hd Tr Tx told_22 pasts_22 runs_22 typed spot_22 frm_22 reas_22 caus_22 ords_22 ordr_22) → va_S AA s.heap H locs → ∀ ls : Array Slot, lv_has ls 4 [(0, .ref (b 0)), (1, .int y1_22)] → f_X8_plays_L22 Tx typed n22 y1_22 S_22 P_22 told_22 pasts_22 runs_22 spot_22 frm_22 reas_22 caus_22 ords_22 ordr_22 = some R → W p l e rmX8_plays s m args below meth c H locs 0 0 Q (F0 m 22 ls []) := by
    intro n22
    induction n22 with
    | zero => intro y1_22 S_22 P_22 told_22 pasts_22 runs_22 spot_22 frm_22 reas_22 caus_22 ords_22 ordr_22 H locs hP hD hS ls hl hf; rw [f_X8_plays_L22] at hf; cases hf
    | succ n22 IH22 =>
      intro y1_22 S_22 P_22 told_22 pasts_22 runs_22 spot_22 frm_22 reas_22 caus_22 ords_22 ordr_22 H locs hP hD hS ls hl hf
      have J108 : ∀ (y1_108 : Int32) (z0_108 : Int32) (S_108 : Nat → Int32) (P_108 : Nat → Int32) (told_108 : Nat → Int32) (pasts_108 : Int32) (runs_108 : Int32) (spot_108 : Int32) (frm_108 : Int32) (reas_108 : Int32) (caus_108 : Int32) (ords_108 : Int32) (ordr_108 : Int32) (H : Heap) (locs : List Loc), va_P D vwCl (w_model cI cC b S_108 P_108 Hd Tr Tx told_108 pasts_108 runs_108 typed spot_108 frm_108 reas_108 caus_108 ords_108 ordr_108) H → va_D AA (w_model cI cC b S_108 P_108 Hd Tr Tx told_108 pasts_108 runs_108 typed spot_108 frm_108 reas_108 caus_108 ords_108 ordr_108) → va_S AA s.heap H locs → ∀ ls : Array Slot, lv_has ls 4 [(0, .ref (b 0)), (1, .int y1_108)] → f_X8_plays_J108 (f_X8_plays_L22 Tx typed n22) Tx typed y1_108 z0_108 S_108 P_108 told_108 pasts_108 runs_108 spot_108 frm_108 reas_108 caus_108 ords_108 ordr_108 = some R → W p l e rmX8_plays s m args below meth c H locs 0 0 Q (F0 m 108 ls [.int z0_108, .ref (b 0)]) := by
        intro y1_108 z0_108 S_108 P_108 told_108 pasts_108 runs_108 spot_108 frm_108 reas_108 caus_108 ords_108 ordr_108 H locs hP hD hS ls hl hf
        rw [f_X8_plays_J108] at hf
        refine va_put hx hb hts n8_ tyX8 tyX8_ok nmX8 hown hK hP hD hS 0 rfl rfl 11 (Nat.le_of_ble_eq_true rfl) k7_ (fun _ h => h) rfl (v := .int z0_108) (tyX8_ok 11 (Nat.le_of_ble_eq_true rfl)) rfl rfl (Nat.le_of_ble_eq_true rfl) dX8_plays_108 (fun H locs hP hD hS => ?_)
        have hP : va_P D vwCl (w_model cI cC b S_108 P_108 Hd Tr Tx told_108 pasts_108 runs_108 typed spot_108 frm_108 reas_108 z0_108 ords_108 ordr_108) H := hP
        have hD : va_D AA (w_model cI cC b S_108 P_108 Hd Tr Tx told_108 pasts_108 runs_108 typed spot_108 frm_108 reas_108 z0_108 ords_108 ordr_108) := hD
        refine lv_aload_n hx hb dX8_plays_111 rfl (lv_at hl 0 rfl) ?_
        refine lv_dup hx hb dX8_plays_112 rfl ?_
        refine va_get hx hb hts n8_ hown hK hP 0 rfl rfl 12 (Nat.le_of_ble_eq_true rfl) k4_ (fun _ h => h) rfl dX8_plays_113 ?_
        refine lv_iconst (v := (1 : Int32)) hx hb dX8_plays_116 (by decide) ?_
        refine lv_iadd hx hb dX8_plays_117 ?_
        refine lv_topi (fun v11 ev11 => ?_)
        replace hf := lt_e ev11 hf
        refine va_put hx hb hts n8_ tyX8 tyX8_ok nmX8 hown hK hP hD hS 0 rfl rfl 12 (Nat.le_of_ble_eq_true rfl) k4_ (fun _ h => h) rfl (v := .int v11) (tyX8_ok 12 (Nat.le_of_ble_eq_true rfl)) rfl rfl (Nat.le_of_ble_eq_true rfl) dX8_plays_118 (fun H locs hP hD hS => ?_)
        have hP : va_P D vwCl (w_model cI cC b S_108 P_108 Hd Tr Tx told_108 pasts_108 runs_108 typed spot_108 frm_108 reas_108 z0_108 v11 ordr_108) H := hP
        have hD : va_D AA (w_model cI cC b S_108 P_108 Hd Tr Tx told_108 pasts_108 runs_108 typed spot_108 frm_108 reas_108 z0_108 v11 ordr_108) := hD
        refine lv_goto (tgt := 22) hx hb dX8_plays_121 (by decide) ?_
        exact IH22 y1_108 S_108 P_108 told_108 pasts_108 runs_108 spot_108 frm_108 reas_108 z0_108 v11 ordr_108 H locs hP hD hS ls (lv_sub hl [0, 1] rfl) hf
      have J87 : ∀ (y1_87 : Int32) (y2_87 : Int32) (y3_87 : Int32) (z0_87 : Int32) (S_87 : Nat → Int32) (P_87 : Nat → Int32) (told_87 : Nat → Int32) (pasts_87 : Int32) (runs_87 : Int32) (spot_87 : Int32) (frm_87 : Int32) (reas_87 : Int32) (caus_87 : Int32) (ords_87 : Int32) (ordr_87 : Int32) (H : Heap) (locs : List Loc), va_P D vwCl (w_model cI cC b S_87 P_87 Hd Tr Tx told_87 pasts_87 runs_87 typed spot_87 frm_87 reas_87 caus_87 ords_87 ordr_87) H → va_D AA (w_model cI cC b S_87 P_87 Hd Tr Tx told_87 pasts_87 runs_87 typed spot_87 frm_87 reas_87 caus_87 ords_87 ordr_87) → va_S AA s.heap H locs → ∀ ls : Array Slot, lv_has ls 4 [(0, .ref (b 0)), (1, .int y1_87), (2, .int y2_87), (3, .int y3_87)] → f_X8_plays_J87 (f_X8_plays_L22 Tx typed n22) Tx typed y1_87 y2_87 y3_87 z0_87 S_87 P_87 told_87 pasts_87 runs_87 spot_87 frm_87 reas_87 caus_87 ords_87 ordr_87 = some R → W p l e rmX8_plays s m args below meth c H locs 0 0 Q (F0 m 87 ls [.int z0_87, .ref (b 0)]) := by
        intro y1_87 y2_87 y3_87 z0_87 S_87 P_87 told_87 pasts_87 runs_87 spot_87 frm_87 reas_87 caus_87 ords_87 ordr_87 H locs hP hD hS ls hl hf
        rw [f_X8_plays_J87] at hf
        refine va_put hx hb hts n8_ tyX8 tyX8_ok nmX8 hown hK hP hD hS 0 rfl rfl 10 (Nat.le_of_ble_eq_true rfl) k6_ (fun _ h => h) rfl (v := .int z0_87) (tyX8_ok 10 (Nat.le_of_ble_eq_true rfl)) rfl rfl (Nat.le_of_ble_eq_true rfl) dX8_plays_87 (fun H locs hP hD hS => ?_)
        have hP : va_P D vwCl (w_model cI cC b S_87 P_87 Hd Tr Tx told_87 pasts_87 runs_87 typed spot_87 frm_87 z0_87 caus_87 ords_87 ordr_87) H := hP
        have hD : va_D AA (w_model cI cC b S_87 P_87 Hd Tr Tx told_87 pasts_87 runs_87 typed spot_87 frm_87 z0_87 caus_87 ords_87 ordr_87) := hD
        refine lv_aload_n hx hb dX8_plays_90 rfl (lv_at hl 0 rfl) ?_
        refine lv_iload_n hx hb dX8_plays_91 rfl (lv_at hl 2 rfl) ?_
        refine lv_if_eq (tgt := 99) hx hb dX8_plays_92 (by decide) (fun hc10 => ?_) (fun hc10 => ?_)
        · replace hf := it hc10 hf
          refine lv_aload_n hx hb dX8_plays_99 rfl (lv_at hl 0 rfl) ?_
          refine va_get hx hb hts n8_ hown hK hP 0 rfl rfl 8 (Nat.le_of_ble_eq_true rfl) k2_ (fun _ h => h) rfl dX8_plays_100 ?_
          refine lv_aload_n hx hb dX8_plays_103 rfl (lv_at hl 0 rfl) ?_
          refine va_get hx hb hts n8_ hown hK hP 0 rfl rfl 9 (Nat.le_of_ble_eq_true rfl) k3_ (fun _ h => h) rfl dX8_plays_104 ?_
          refine lv_isub hx hb dX8_plays_107 ?_
          exact J108 y1_87 (spot_87 - frm_87) S_87 P_87 told_87 pasts_87 runs_87 spot_87 frm_87 z0_87 caus_87 ords_87 ordr_87 H locs hP hD hS ls (lv_sub hl [0, 1] rfl) hf
        · replace hf := ie hc10 hf
          refine lv_iload_n hx hb dX8_plays_95 rfl (lv_at hl 3 rfl) ?_
          refine lv_goto (tgt := 108) hx hb dX8_plays_96 (by decide) ?_
          exact J108 y1_87 y3_87 S_87 P_87 told_87 pasts_87 runs_87 spot_87 frm_87 z0_87 caus_87 ords_87 ordr_87 H locs hP hD hS ls (lv_sub hl [0, 1] rfl) hf
      have J76 : ∀ (y2_76 : Int32) (y3_76 : Int32) (z0_76 : Int32) (S_76 : Nat → Int32) (P_76 : Nat → Int32) (told_76 : Nat → Int32) (pasts_76 : Int32) (runs_76 : Int32) (spot_76 : Int32) (frm_76 : Int32) (reas_76 : Int32) (caus_76 : Int32) (ords_76 : Int32) (ordr_76 : Int32) (H : Heap) (locs : List Loc), va_P D vwCl (w_model cI cC b S_76 P_76 Hd Tr Tx told_76 pasts_76 runs_76 typed spot_76 frm_76 reas_76 caus_76 ords_76 ordr_76) H → va_D AA (w_model cI cC b S_76 P_76 Hd Tr Tx told_76 pasts_76 runs_76 typed spot_76 frm_76 reas_76 caus_76 ords_76 ordr_76) → va_S AA s.heap H locs → ∀ ls : Array Slot, lv_has ls 4 [(0, .ref (b 0)), (2, .int y2_76), (3, .int y3_76)] → f_X8_plays_J76 (f_X8_plays_L22 Tx typed n22) Tx typed y2_76 y3_76 z0_76 S_76 P_76 told_76 pasts_76 runs_76 spot_76 frm_76 reas_76 caus_76 ords_76 ordr_76 = some R → W p l e rmX8_plays s m args below meth c H locs 0 0 Q (F0 m 76 ls [.int z0_76]) := by
        intro y2_76 y3_76 z0_76 S_76 P_76 told_76 pasts_76 runs_76 spot_76 frm_76 reas_76 caus_76 ords_76 ordr_76 H locs hP hD hS ls hl hf
        rw [f_X8_plays_J76] at hf
        refine lv_istore_n (lv' := [(1, .int z0_76), (0, .ref (b 0)), (2, .int y2_76), (3, .int y3_76)]) hx hb dX8_plays_76 rfl hl (by decide) rfl (fun ls hl => ?_)
        refine lv_aload_n hx hb dX8_plays_77 rfl (lv_at hl 1 rfl) ?_
        refine lv_iload_n hx hb dX8_plays_78 rfl (lv_at hl 2 rfl) ?_
        refine lv_if_eq (tgt := 86) hx hb dX8_plays_79 (by decide) (fun hc9 => ?_) (fun hc9 => ?_)
        · replace hf := it hc9 hf
          refine lv_iconst (v := (1 : Int32)) hx hb dX8_plays_86 (by decide) ?_
          exact J87 z0_76 y2_76 y3_76 (1 : Int32) S_76 P_76 told_76 pasts_76 runs_76 spot_76 frm_76 reas_76 caus_76 ords_76 ordr_76 H locs hP hD hS ls (lv_sub hl [1, 0, 2, 3] rfl) hf
        · replace hf := ie hc9 hf
          refine lv_iconst (v := (2 : Int32)) hx hb dX8_plays_82 (by decide) ?_
          refine lv_goto (tgt := 87) hx hb dX8_plays_83 (by decide) ?_
          exact J87 z0_76 y2_76 y3_76 (2 : Int32) S_76 P_76 told_76 pasts_76 runs_76 spot_76 frm_76 reas_76 caus_76 ords_76 ordr_76 H locs hP hD hS ls (lv_sub hl [1, 0, 2, 3] rfl) hf
      have J75 : ∀ (y2_75 : Int32) (y3_75 : Int32) (S_75 : Nat → Int32) (P_75 : Nat → Int32) (told_75 : Nat → Int32) (pasts_75 : Int32) (runs_75 : Int32) (spot_75 : Int32) (frm_75 : Int32) (reas_75 : Int32) (caus_75 : Int32) (ords_75 : Int32) (ordr_75 : Int32) (H : Heap) (locs : List Loc), va_P D vwCl (w_model cI cC b S_75 P_75 Hd Tr Tx told_75 pasts_75 runs_75 typed spot_75 frm_75 reas_75 caus_75 ords_75 ordr_75) H → va_D AA (w_model cI cC b S_75 P_75 Hd Tr Tx told_75 pasts_75 runs_75 typed spot_75 frm_75 reas_75 caus_75 ords_75 ordr_75) → va_S AA s.heap H locs → ∀ ls : Array Slot, lv_has ls 4 [(0, .ref (b 0)), (2, .int y2_75), (3, .int y3_75)] → f_X8_plays_J75 (f_X8_plays_L22 Tx typed n22) Tx typed y2_75 y3_75 S_75 P_75 told_75 pasts_75 runs_75 spot_75 frm_75 reas_75 caus_75 ords_75 ordr_75 = some R → W p l e rmX8_plays s m args below meth c H locs 0 0 Q (F0 m 75 ls []) := by
        intro y2_75 y3_75 S_75 P_75 told_75 pasts_75 runs_75 spot_75 frm_75 reas_75 caus_75 ords_75 ordr_75 H locs hP hD hS ls hl hf
        rw [f_X8_plays_J75] at hf
        refine lv_iconst (v := (0 : Int32)) hx hb dX8_plays_75 (by decide) ?_
        exact J76 y2_75 y3_75 (0 : Int32) S_75 P_75 told_75 pasts_75 runs_75 spot_75 frm_75 reas_75 caus_75 ords_75 ordr_75 H locs hP hD hS ls (lv_sub hl [0, 1, 2] rfl) hf
      have J62 : ∀ (y2_62 : Int32) (z0_62 : Int32) (S_62 : Nat → Int32) (P_62 : Nat → Int32) (told_62 : Nat → Int32) (pasts_62 : Int32) (runs_62 : Int32) (spot_62 : Int32) (frm_62 : Int32) (reas_62 : Int32) (caus_62 : Int32) (ords_62 : Int32) (ordr_62 : Int32) (H : Heap) (locs : List Loc), va_P D vwCl (w_model cI cC b S_62 P_62 Hd Tr Tx told_62 pasts_62 runs_62 typed spot_62 frm_62 reas_62 caus_62 ords_62 ordr_62) H → va_D AA (w_model cI cC b S_62 P_62 Hd Tr Tx told_62 pasts_62 runs_62 typed spot_62 frm_62 reas_62 caus_62 ords_62 ordr_62) → va_S AA s.heap H locs → ∀ ls : Array Slot, lv_has ls 4 [(0, .ref (b 0)), (2, .int y2_62)] → f_X8_plays_J62 (f_X8_plays_L22 Tx typed n22) Tx typed y2_62 z0_62 S_62 P_62 told_62 pasts_62 runs_62 spot_62 frm_62 reas_62 caus_62 ords_62 ordr_62 = some R → W p l e rmX8_plays s m args below meth c H locs 0 0 Q (F0 m 62 ls [.int z0_62]) := by
        intro y2_62 z0_62 S_62 P_62 told_62 pasts_62 runs_62 spot_62 frm_62 reas_62 caus_62 ords_62 ordr_62 H locs hP hD hS ls hl hf
        rw [f_X8_plays_J62] at hf
        refine lv_istore_n (lv' := [(3, .int z0_62), (0, .ref (b 0)), (2, .int y2_62)]) hx hb dX8_plays_62 rfl hl (by decide) rfl (fun ls hl => ?_)
        refine lv_iload_n hx hb dX8_plays_63 rfl (lv_at hl 2 rfl) ?_
        refine lv_if_eq (tgt := 75) hx hb dX8_plays_64 (by decide) (fun hc7 => ?_) (fun hc7 => ?_)
        · replace hf := it hc7 hf
          exact J75 y2_62 z0_62 S_62 P_62 told_62 pasts_62 runs_62 spot_62 frm_62 reas_62 caus_62 ords_62 ordr_62 H locs hP hD hS ls (lv_sub hl [1, 2, 0] rfl) hf
        · replace hf := ie hc7 hf
          refine lv_iload_n hx hb dX8_plays_67 rfl (lv_at hl 0 rfl) ?_
          refine lv_if_lt (tgt := 75) hx hb dX8_plays_68 (by decide) (fun hc8 => ?_) (fun hc8 => ?_)
          · replace hf := it hc8 hf
            exact J75 y2_62 z0_62 S_62 P_62 told_62 pasts_62 runs_62 spot_62 frm_62 reas_62 caus_62 ords_62 ordr_62 H locs hP hD hS ls (lv_sub hl [1, 2, 0] rfl) hf
          · replace hf := ie hc8 hf
            refine lv_iconst (v := (1 : Int32)) hx hb dX8_plays_71 (by decide) ?_
            refine lv_goto (tgt := 76) hx hb dX8_plays_72 (by decide) ?_
            exact J76 y2_62 z0_62 (1 : Int32) S_62 P_62 told_62 pasts_62 runs_62 spot_62 frm_62 reas_62 caus_62 ords_62 ordr_62 H locs hP hD hS ls (lv_sub hl [1, 2, 0] rfl) hf
      rw [f_X8_plays_L22] at hf
      refine lv_aload_n hx hb dX8_plays_22 rfl (lv_at hl 0 rfl) ?_
      refine va_get hx hb hts n8_ hown hK hP 0 rfl rfl 8 (Nat.le_of_ble_eq_true rfl) k2_ (fun _ h => h) rfl dX8_plays_23 ?_
      refine lv_aload_n hx hb dX8_plays_26 rfl (lv_at hl 0 rfl) ?_
      refine va_get hx hb hts n8_ hown hK hP 0 rfl rfl 7 (Nat.le_of_ble_eq_true rfl) k5_ (fun _ h => h) rfl dX8_plays_27 ?_
      refine lv_icmp_ge (tgt := 124) hx hb dX8_plays_30 (by decide) (fun hc1 => ?_) (fun hc1 => ?_)
      · replace hf := it hc1 hf
        exact J124 y1_22 S_22 P_22 told_22 pasts_22 runs_22 spot_22 frm_22 reas_22 caus_22 ords_22 ordr_22 H locs hP hD hS ls (lv_sub hl [0, 1] rfl) hf
      · replace hf := ie hc1 hf
        refine lv_iload_n hx hb dX8_plays_33 rfl (lv_at hl 1 rfl) ?_
        refine lv_if_eq (tgt := 124) hx hb dX8_plays_34 (by decide) (fun hc2 => ?_) (fun hc2 => ?_)
        · replace hf := it hc2 hf
          exact J124 y1_22 S_22 P_22 told_22 pasts_22 runs_22 spot_22 frm_22 reas_22 caus_22 ords_22 ordr_22 H locs hP hD hS ls (lv_sub hl [0, 1] rfl) hf
        · replace hf := ie hc2 hf
          refine lv_aload_n hx hb dX8_plays_37 rfl (lv_at hl 0 rfl) ?_
          refine lv_aload_n hx hb dX8_plays_38 rfl (lv_at hl 0 rfl) ?_
          refine va_get hx hb hts n8_ hown hK hP 0 rfl rfl 8 (Nat.le_of_ble_eq_true rfl) k2_ (fun _ h => h) rfl dX8_plays_39 ?_
          refine va_put hx hb hts n8_ tyX8 tyX8_ok nmX8 hown hK hP hD hS 0 rfl rfl 9 (Nat.le_of_ble_eq_true rfl) k3_ (fun _ h => h) rfl (v := .int spot_22) (tyX8_ok 9 (Nat.le_of_ble_eq_true rfl)) rfl rfl (Nat.le_of_ble_eq_true rfl) dX8_plays_42 (fun H locs hP hD hS => ?_)
          have hP : va_P D vwCl (w_model cI cC b S_22 P_22 Hd Tr Tx told_22 pasts_22 runs_22 typed spot_22 spot_22 reas_22 caus_22 ords_22 ordr_22) H := hP
          have hD : va_D AA (w_model cI cC b S_22 P_22 Hd Tr Tx told_22 pasts_22 runs_22 typed spot_22 spot_22 reas_22 caus_22 ords_22 ordr_22) := hD
          refine lv_aload_n hx hb dX8_plays_45 rfl (lv_at hl 0 rfl) ?_
          obtain ⟨q3, hq3, hf⟩ := ob hf
          refine cl_WV (W1 := (w_model cI cC b S_22 P_22 Hd Tr Tx q3.2.1 pasts_22 runs_22 typed q3.2.2.1 spot_22 reas_22 caus_22 ords_22 q3.2.2.2)) (As := []) (rest := []) hF hP hD hS (c_X8_reads b S_22 P_22 Hd Tr Tx told_22 pasts_22 runs_22 typed spot_22 spot_22 reas_22 caus_22 ords_22 ordr_22 q3 hq3) (cwV 0 hts gX8_plays_X8_reads rfl rfl rfl (by decide +kernel) ⟨(Nat.le_of_ble_eq_true rfl), (Nat.le_of_ble_eq_true rfl)⟩) [0, 1, 2, 3, 4, 5, 6] rfl (by decide +kernel) (va_recv hK hP (ci := 8) (q0 := 0) rfl rfl) rfl rfl hl.1 (Nat.le_of_ble_eq_true rfl) dX8_plays_46 ⟨Nat.zero_le _, Nat.zero_le _⟩ (hA2 [(b 0), (b 1), (b 2), (b 3), (b 4), (b 5), (b 6)] rfl rfl) [] rfl [] rfl rfl (nW := 7) rfl (by decide +kernel) (fun H locs hP hD hS => ?_)
          refine lv_istore_n (lv' := [(2, .int q3.1), (0, .ref (b 0)), (1, .int y1_22)]) hx hb dX8_plays_49 rfl hl (by decide) rfl (fun ls hl => ?_)
          refine lv_iload_n hx hb dX8_plays_50 rfl (lv_at hl 0 rfl) ?_
          refine lv_if_eq (tgt := 61) hx hb dX8_plays_51 (by decide) (fun hc4 => ?_) (fun hc4 => ?_)
          · replace hf := it hc4 hf
            refine lv_iconst (v := (0 : Int32)) hx hb dX8_plays_61 (by decide) ?_
            exact J62 q3.1 (0 : Int32) S_22 P_22 q3.2.1 pasts_22 runs_22 q3.2.2.1 spot_22 reas_22 caus_22 ords_22 q3.2.2.2 H locs hP hD hS ls (lv_sub hl [1, 0] rfl) hf
          · replace hf := ie hc4 hf
            refine lv_aload_n hx hb dX8_plays_54 rfl (lv_at hl 1 rfl) ?_
            obtain ⟨q5, hq5, hf⟩ := ob hf
            refine cl_WV (W1 := (w_model cI cC b q5.2.1 q5.2.2.1 Hd Tr Tx q3.2.1 q5.2.2.2 runs_22 typed q3.2.2.1 spot_22 reas_22 caus_22 ords_22 q3.2.2.2)) (As := []) (rest := []) hF hP hD hS (c_X8_calls b S_22 P_22 Hd Tr Tx q3.2.1 pasts_22 runs_22 typed q3.2.2.1 spot_22 reas_22 caus_22 ords_22 q3.2.2.2 q5 hq5) (cwV 0 hts gX8_plays_X8_calls rfl rfl rfl (by decide +kernel) ⟨(Nat.le_of_ble_eq_true rfl), (Nat.le_of_ble_eq_true rfl)⟩) [0, 1, 2, 3, 4, 5, 6] rfl (by decide +kernel) (va_recv hK hP (ci := 8) (q0 := 0) rfl rfl) rfl rfl hl.1 (Nat.le_of_ble_eq_true rfl) dX8_plays_55 ⟨Nat.zero_le _, Nat.zero_le _⟩ (hA2 [(b 0), (b 1), (b 2), (b 3), (b 4), (b 5), (b 6)] rfl rfl) [] rfl [] rfl rfl (nW := 7) rfl (by decide +kernel) (fun H locs hP hD hS => ?_)
            refine lv_goto (tgt := 62) hx hb dX8_plays_58 (by decide) ?_
            exact J62 q3.1 q5.1 q5.2.1 q5.2.2.1 q3.2.1 q5.2.2.2 runs_22 q3.2.2.1 spot_22 reas_22 caus_22 ords_22 q3.2.2.2 H locs hP hD hS ls (lv_sub hl [1, 0] rfl) hf
  rw [f_X8_plays] at hf
  obtain ⟨H, hH⟩ : ∃ z : Heap, z = s.heap := ⟨_, rfl⟩
  obtain ⟨locs, hL⟩ : ∃ z : List Loc, z = [] := ⟨_, rfl⟩
  replace hP := hH ▸ hP
  replace hS : va_S AA s.heap H locs := by rw [hH, hL]; exact hS
  suffices hgoal : W p l e rmX8_plays s m args below meth c H locs 0 0 Q (F0 m 0 ls []) by rw [hH, hL] at hgoal; exact hgoal
  clear hH hL
  refine lv_aload_n hx hb dX8_plays_0 rfl (lv_at hl 0 rfl) ?_
  refine lv_iconst (v := (1 : Int32)) hx hb dX8_plays_1 (by decide) ?_
  refine va_put hx hb hts n8_ tyX8 tyX8_ok nmX8 hown hK hP hD hS 0 rfl rfl 5 (Nat.le_of_ble_eq_true rfl) k1_ (fun _ h => h) rfl (v := .int (1 : Int32)) (tyX8_ok 5 (Nat.le_of_ble_eq_true rfl)) (by decide) (by decide) (Nat.le_of_ble_eq_true rfl) dX8_plays_2 (fun H locs hP hD hS => ?_)
  have hP : va_P D vwCl (w_model cI cC b S P Hd Tr Tx told pasts (1 : Int32) typed spot frm reas caus ords ordr) H := hP
  have hD : va_D AA (w_model cI cC b S P Hd Tr Tx told pasts (1 : Int32) typed spot frm reas caus ords ordr) := hD
  refine lv_aload_n hx hb dX8_plays_5 rfl (lv_at hl 0 rfl) ?_
  refine lv_iconst (v := (0 : Int32)) hx hb dX8_plays_6 (by decide) ?_
  refine va_put hx hb hts n8_ tyX8 tyX8_ok nmX8 hown hK hP hD hS 0 rfl rfl 8 (Nat.le_of_ble_eq_true rfl) k2_ (fun _ h => h) rfl (v := .int (0 : Int32)) (tyX8_ok 8 (Nat.le_of_ble_eq_true rfl)) rfl rfl (Nat.le_of_ble_eq_true rfl) dX8_plays_7 (fun H locs hP hD hS => ?_)
  have hP : va_P D vwCl (w_model cI cC b S P Hd Tr Tx told pasts (1 : Int32) typed (0 : Int32) frm reas caus ords ordr) H := hP
  have hD : va_D AA (w_model cI cC b S P Hd Tr Tx told pasts (1 : Int32) typed (0 : Int32) frm reas caus ords ordr) := hD
  refine lv_aload_n hx hb dX8_plays_10 rfl (lv_at hl 0 rfl) ?_
  refine lv_iconst (v := (0 : Int32)) hx hb dX8_plays_11 (by decide) ?_
  refine va_put hx hb hts n8_ tyX8 tyX8_ok nmX8 hown hK hP hD hS 0 rfl rfl 9 (Nat.le_of_ble_eq_true rfl) k3_ (fun _ h => h) rfl (v := .int (0 : Int32)) (tyX8_ok 9 (Nat.le_of_ble_eq_true rfl)) rfl rfl (Nat.le_of_ble_eq_true rfl) dX8_plays_12 (fun H locs hP hD hS => ?_)
  have hP : va_P D vwCl (w_model cI cC b S P Hd Tr Tx told pasts (1 : Int32) typed (0 : Int32) (0 : Int32) reas caus ords ordr) H := hP
  have hD : va_D AA (w_model cI cC b S P Hd Tr Tx told pasts (1 : Int32) typed (0 : Int32) (0 : Int32) reas caus ords ordr) := hD
  refine lv_aload_n hx hb dX8_plays_15 rfl (lv_at hl 0 rfl) ?_
  refine lv_iconst (v := (0 : Int32)) hx hb dX8_plays_16 (by decide) ?_
  refine va_put hx hb hts n8_ tyX8 tyX8_ok nmX8 hown hK hP hD hS 0 rfl rfl 12 (Nat.le_of_ble_eq_true rfl) k4_ (fun _ h => h) rfl (v := .int (0 : Int32)) (tyX8_ok 12 (Nat.le_of_ble_eq_true rfl)) rfl rfl (Nat.le_of_ble_eq_true rfl) dX8_plays_17 (fun H locs hP hD hS => ?_)
  have hP : va_P D vwCl (w_model cI cC b S P Hd Tr Tx told pasts (1 : Int32) typed (0 : Int32) (0 : Int32) reas caus (0 : Int32) ordr) H := hP
  have hD : va_D AA (w_model cI cC b S P Hd Tr Tx told pasts (1 : Int32) typed (0 : Int32) (0 : Int32) reas caus (0 : Int32) ordr) := hD
  refine lv_iconst (v := (1 : Int32)) hx hb dX8_plays_20 (by decide) ?_
  refine lv_istore_n (lv' := [(1, .int (1 : Int32)), (0, .ref (b 0))]) hx hb dX8_plays_21 rfl hl (by decide) rfl (fun ls hl => ?_)
  exact L22 FU (1 : Int32) S P told pasts (1 : Int32) (0 : Int32) (0 : Int32) reas caus (0 : Int32) ordr H locs hP hD hS ls (lv_sub hl [1, 0] rfl) hf
abbrev rmX8_fault : Room := { frames := 8, cells := 0, slots := 0, locals := 159 }
set_option maxHeartbeats 4000000 in
set_option maxRecDepth 100000 in
theorem c_X8_fault (b : Nat → Nat) (x1 : Int32) (S : Nat → Int32) (P : Nat → Int32) (Hd : Nat → Int32) (Tr : Nat → Int32) (Tx : Nat → Int32) (told : Nat → Int32) (pasts : Int32) (runs : Int32) (typed : Int32) (spot : Int32) (frm : Int32) (reas : Int32) (caus : Int32) (ords : Int32) (ordr : Int32) (R : Int32 × (Nat → Int32) × (Nat → Int32) × (Nat → Int32) × (Nat → Int32) × Int32 × Int32 × Int32 × Int32 × Int32 × Int32 × Int32 × Int32) (hf : f_X8_fault x1 S P Hd Tx told pasts runs typed spot frm reas caus ords ordr = some R) : WrI l yX8_fault wsX8_fault rmX8_fault D cI cC (w_model cI cC b S P Hd Tr Tx told pasts runs typed spot frm reas caus ords ordr) (w_model cI cC b R.2.1 R.2.2.1 R.2.2.2.1 Tr Tx R.2.2.2.2.1 R.2.2.2.2.2.1 R.2.2.2.2.2.2.1 typed R.2.2.2.2.2.2.2.1 R.2.2.2.2.2.2.2.2.1 R.2.2.2.2.2.2.2.2.2.1 R.2.2.2.2.2.2.2.2.2.2.1 R.2.2.2.2.2.2.2.2.2.2.2.1 R.2.2.2.2.2.2.2.2.2.2.2.2) [.ref (b 0), .int x1] R.1 := by
  refine en_W (cc := cX8_fault) (n := 3) (by decide) rfl (Nat.le_of_ble_eq_true rfl) ?_
  intro p e s m args below meth c Q AA ls hx hb hml hown hts hK hN hP hD hS hl ret
  have hown : s.vm.findClass RX8 = some m.cls := hown
  have hF : FX p m c cX8_fault 3 s args wsX8_fault RX8 D cI cC := ⟨⟨hx, hb, hml, hown, hts⟩, hK, hN⟩
  have hl : lv_has ls 3 [(0, .ref (b 0)), (1, .int x1)] := hl
  have k1_ := hts (.constant RX8 64 (-1000001)) (List.mem_of_getElem? (i := 1) rfl)
  have k2_ := hts (.fieldLink RX8 7 "DriftGrindersModel" "s" "[I") (List.mem_of_getElem? (i := 2) rfl)
  have k3_ := hts (.fieldLink RX8 16 "DriftGrindersModel" "held" "[I") (List.mem_of_getElem? (i := 3) rfl)
  have k4_ := hts (.constant RX8 96 (-1000004)) (List.mem_of_getElem? (i := 4) rfl)
  have k5_ := hts (.fieldLink RX8 159 "DriftGrindersModel" "from" "I") (List.mem_of_getElem? (i := 5) rfl)
  have k6_ := hts (.fieldLink RX8 172 "DriftGrindersModel" "reason" "I") (List.mem_of_getElem? (i := 6) rfl)
  have k7_ := hts (.fieldLink RX8 175 "DriftGrindersModel" "cause" "I") (List.mem_of_getElem? (i := 7) rfl)
  have n8_ : ∀ w ∈ wsX80, w ∈ wsX8_fault := fun _ h => List.mem_cons_of_mem _ (List.mem_append_right _ h)
  rw [f_X8_fault] at hf
  obtain ⟨H, hH⟩ : ∃ z : Heap, z = s.heap := ⟨_, rfl⟩
  obtain ⟨locs, hL⟩ : ∃ z : List Loc, z = [] := ⟨_, rfl⟩
  replace hP := hH ▸ hP
  replace hS : va_S AA s.heap H locs := by rw [hH, hL]; exact hS
  suffices hgoal : W p l e rmX8_fault s m args below meth c H locs 0 0 Q (F0 m 0 ls []) by rw [hH, hL] at hgoal; exact hgoal
  clear hH hL
  refine lv_iload_n hx hb dX8_fault_0 rfl (lv_at hl 1 rfl) ?_
  refine lv_iconst (v := (0 : Int32)) hx hb dX8_fault_1 (by decide) ?_
  refine lv_iconst (v := (2 : Int32)) hx hb dX8_fault_2 (by decide) ?_
  obtain ⟨q1, hq1, hf⟩ := ob hf
  refine cl_RS (As := [.int x1, .int (0 : Int32), .int (2 : Int32)]) (rest := []) hF hP hD (c_X8_in x1 (0 : Int32) (2 : Int32) q1 hq1) (va_cwS 3 hts gX8_fault_X8_in rfl rfl rfl (by decide +kernel) ⟨(Nat.le_of_ble_eq_true rfl), (Nat.le_of_ble_eq_true rfl)⟩) [] rfl (by decide +kernel) rfl rfl hl.1 (Nat.le_of_ble_eq_true rfl) dX8_fault_3 ⟨Nat.zero_le _, Nat.zero_le _⟩ ?_
  refine lv_if_ne (tgt := 12) hx hb dX8_fault_6 (by decide) (fun hc2 => ?_) (fun hc2 => ?_)
  · replace hf := ie hc2 hf
    refine lv_aload_n hx hb dX8_fault_12 rfl (lv_at hl 0 rfl) ?_
    refine va_get hx hb hts n8_ hown hK hP 0 rfl rfl 0 (Nat.le_of_ble_eq_true rfl) k2_ (fun _ h => h) rfl dX8_fault_13 ?_
    refine lv_aload_n hx hb dX8_fault_16 rfl (lv_at hl 0 rfl) ?_
    refine va_get hx hb hts n8_ hown hK hP 0 rfl rfl 2 (Nat.le_of_ble_eq_true rfl) k3_ (fun _ h => h) rfl dX8_fault_17 ?_
    obtain ⟨q3, hq3, hf⟩ := ob hf
    refine cl_VS (W1 := (w_model cI cC b S P q3 Tr Tx told pasts runs typed spot frm reas caus ords ordr)) (As := [.ref (b 1), .ref (b 3)]) (rest := []) hF hP hD hS (c_X8_copies (b 1) (b 3) S Hd q3 hq3) (va_cwS 2 hts gX8_fault_X8_copies rfl rfl rfl (by decide +kernel) ⟨(Nat.le_of_ble_eq_true rfl), (Nat.le_of_ble_eq_true rfl)⟩) [1, 3] rfl (by decide +kernel) rfl rfl hl.1 (Nat.le_of_ble_eq_true rfl) dX8_fault_20 ⟨Nat.zero_le _, Nat.zero_le _⟩ (hA2 [(b 1), (b 3)] rfl rfl) [0, 2, 4, 5, 6] rfl [((b 0), .inr (8, [.ref (b 1), .ref (b 2), .ref (b 3), .ref (b 4), .int pasts, .int runs, .ref (b 5), .int typed, .int spot, .int frm, .int reas, .int caus, .int ords, .int ordr, .ref (b 6)])), ((b 2), .inl (cI, 2524, .inl P)), ((b 4), .inl (cI, 631, .inl Tr)), ((b 5), .inl (cI, 60, .inl Tx)), ((b 6), .inl (cI, 2, .inl told))] rfl rfl (nW := 7) rfl (by decide +kernel) (fun H locs hP hD hS => ?_)
    refine lv_aload_n hx hb dX8_fault_23 rfl (lv_at hl 0 rfl) ?_
    obtain ⟨q4, hq4, hf⟩ := ob hf
    refine cl_WV (W1 := (w_model cI cC b q4.2.1 q4.2.2.1 q3 Tr Tx q4.2.2.2.1 q4.2.2.2.2.1 q4.2.2.2.2.2.1 typed q4.2.2.2.2.2.2.1 q4.2.2.2.2.2.2.2.1 q4.2.2.2.2.2.2.2.2.1 q4.2.2.2.2.2.2.2.2.2.1 q4.2.2.2.2.2.2.2.2.2.2.1 q4.2.2.2.2.2.2.2.2.2.2.2)) (As := []) (rest := []) hF hP hD hS (c_X8_plays b S P q3 Tr Tx told pasts runs typed spot frm reas caus ords ordr q4 hq4) (cwV 0 hts gX8_fault_X8_plays rfl rfl rfl (by decide +kernel) ⟨(Nat.le_of_ble_eq_true rfl), (Nat.le_of_ble_eq_true rfl)⟩) [0, 1, 2, 3, 4, 5, 6] rfl (by decide +kernel) (va_recv hK hP (ci := 8) (q0 := 0) rfl rfl) rfl rfl hl.1 (Nat.le_of_ble_eq_true rfl) dX8_fault_24 ⟨Nat.zero_le _, Nat.zero_le _⟩ (hA2 [(b 0), (b 1), (b 2), (b 3), (b 4), (b 5), (b 6)] rfl rfl) [] rfl [] rfl rfl (nW := 7) rfl (by decide +kernel) (fun H locs hP hD hS => ?_)
    refine lv_istore_n (lv' := [(2, .int q4.1), (0, .ref (b 0)), (1, .int x1)]) hx hb dX8_fault_27 rfl hl (by decide) rfl (fun ls hl => ?_)
    refine lv_aload_n hx hb dX8_fault_28 rfl (lv_at hl 1 rfl) ?_
    refine va_get hx hb hts n8_ hown hK hP 0 rfl rfl 2 (Nat.le_of_ble_eq_true rfl) k3_ (fun _ h => h) rfl dX8_fault_29 ?_
    refine lv_aload_n hx hb dX8_fault_32 rfl (lv_at hl 1 rfl) ?_
    refine va_get hx hb hts n8_ hown hK hP 0 rfl rfl 0 (Nat.le_of_ble_eq_true rfl) k2_ (fun _ h => h) rfl dX8_fault_33 ?_
    obtain ⟨q5, hq5, hf⟩ := ob hf
    refine cl_VS (W1 := (w_model cI cC b q5 q4.2.2.1 q3 Tr Tx q4.2.2.2.1 q4.2.2.2.2.1 q4.2.2.2.2.2.1 typed q4.2.2.2.2.2.2.1 q4.2.2.2.2.2.2.2.1 q4.2.2.2.2.2.2.2.2.1 q4.2.2.2.2.2.2.2.2.2.1 q4.2.2.2.2.2.2.2.2.2.2.1 q4.2.2.2.2.2.2.2.2.2.2.2)) (As := [.ref (b 3), .ref (b 1)]) (rest := []) hF hP hD hS (c_X8_copies (b 3) (b 1) q3 q4.2.1 q5 hq5) (va_cwS 2 hts gX8_fault_X8_copies rfl rfl rfl (by decide +kernel) ⟨(Nat.le_of_ble_eq_true rfl), (Nat.le_of_ble_eq_true rfl)⟩) [3, 1] rfl (by decide +kernel) rfl rfl hl.1 (Nat.le_of_ble_eq_true rfl) dX8_fault_36 ⟨Nat.zero_le _, Nat.zero_le _⟩ (hA2 [(b 3), (b 1)] rfl rfl) [0, 2, 4, 5, 6] rfl [((b 0), .inr (8, [.ref (b 1), .ref (b 2), .ref (b 3), .ref (b 4), .int q4.2.2.2.2.1, .int q4.2.2.2.2.2.1, .ref (b 5), .int typed, .int q4.2.2.2.2.2.2.1, .int q4.2.2.2.2.2.2.2.1, .int q4.2.2.2.2.2.2.2.2.1, .int q4.2.2.2.2.2.2.2.2.2.1, .int q4.2.2.2.2.2.2.2.2.2.2.1, .int q4.2.2.2.2.2.2.2.2.2.2.2, .ref (b 6)])), ((b 2), .inl (cI, 2524, .inl q4.2.2.1)), ((b 4), .inl (cI, 631, .inl Tr)), ((b 5), .inl (cI, 60, .inl Tx)), ((b 6), .inl (cI, 2, .inl q4.2.2.2.1))] rfl rfl (nW := 7) rfl (by decide +kernel) (fun H locs hP hD hS => ?_)
    refine lv_iload_n hx hb dX8_fault_39 rfl (lv_at hl 0 rfl) ?_
    refine lv_if_eq (tgt := 48) hx hb dX8_fault_40 (by decide) (fun hc6 => ?_) (fun hc6 => ?_)
    · replace hf := it hc6 hf
      refine lv_iload_n hx hb dX8_fault_48 rfl (lv_at hl 2 rfl) ?_
      refine lv_if_ne (tgt := 59) hx hb dX8_fault_49 (by decide) (fun hc7 => ?_) (fun hc7 => ?_)
      · replace hf := ie hc7 hf
        refine lv_iload_n hx hb dX8_fault_59 rfl (lv_at hl 2 rfl) ?_
        refine lv_iconst (v := (1 : Int32)) hx hb dX8_fault_60 (by decide) ?_
        refine lv_icmp_ne (tgt := 71) hx hb dX8_fault_61 (by decide) (fun hc8 => ?_) (fun hc8 => ?_)
        · replace hf := ie hc8 hf
          refine lv_aload_n hx hb dX8_fault_71 rfl (lv_at hl 1 rfl) ?_
          refine va_get hx hb hts n8_ hown hK hP 0 rfl rfl 11 (Nat.le_of_ble_eq_true rfl) k7_ (fun _ h => h) rfl dX8_fault_72 ?_
          obtain rfl := Option.some.inj hf
          exact ret 75 ls _ H locs dX8_fault_75 rfl rfl hP hS
        · replace hf := it hc8 hf
          refine lv_aload_n hx hb dX8_fault_64 rfl (lv_at hl 1 rfl) ?_
          refine va_get hx hb hts n8_ hown hK hP 0 rfl rfl 10 (Nat.le_of_ble_eq_true rfl) k6_ (fun _ h => h) rfl dX8_fault_65 ?_
          refine lv_goto (tgt := 75) hx hb dX8_fault_68 (by decide) ?_
          obtain rfl := Option.some.inj hf
          exact ret 75 ls _ H locs dX8_fault_75 rfl rfl hP hS
      · replace hf := it hc7 hf
        refine lv_aload_n hx hb dX8_fault_52 rfl (lv_at hl 1 rfl) ?_
        refine va_get hx hb hts n8_ hown hK hP 0 rfl rfl 9 (Nat.le_of_ble_eq_true rfl) k5_ (fun _ h => h) rfl dX8_fault_53 ?_
        refine lv_goto (tgt := 75) hx hb dX8_fault_56 (by decide) ?_
        obtain rfl := Option.some.inj hf
        exact ret 75 ls _ H locs dX8_fault_75 rfl rfl hP hS
    · replace hf := ie hc6 hf
      refine lv_ldc hx hb hown k4_ dX8_fault_43 ?_
      refine lv_goto (tgt := 75) hx hb dX8_fault_45 (by decide) ?_
      obtain rfl := Option.some.inj hf
      exact ret 75 ls _ H locs dX8_fault_75 rfl rfl hP hS
  · replace hf := it hc2 hf
    refine lv_ldc hx hb hown k1_ dX8_fault_9 ?_
    obtain rfl := Option.some.inj hf
    exact ret 11 ls _ H locs dX8_fault_11 rfl rfl hP hS
abbrev rmX8_play : Room := { frames := 8, cells := 0, slots := 0, locals := 159 }
set_option maxHeartbeats 4000000 in
set_option maxRecDepth 100000 in
theorem c_X8_play (b : Nat → Nat) (S : Nat → Int32) (P : Nat → Int32) (Hd : Nat → Int32) (Tr : Nat → Int32) (Tx : Nat → Int32) (told : Nat → Int32) (pasts : Int32) (runs : Int32) (typed : Int32) (spot : Int32) (frm : Int32) (reas : Int32) (caus : Int32) (ords : Int32) (ordr : Int32) (R : Int32 × (Nat → Int32) × (Nat → Int32) × (Nat → Int32) × (Nat → Int32) × Int32 × Int32 × Int32 × Int32 × Int32 × Int32 × Int32 × Int32) (hf : f_X8_play S P Hd Tx told pasts runs typed spot frm reas caus ords ordr = some R) : WrI l yX8_play wsX8_play rmX8_play D cI cC (w_model cI cC b S P Hd Tr Tx told pasts runs typed spot frm reas caus ords ordr) (w_model cI cC b R.2.1 R.2.2.1 R.2.2.2.1 Tr Tx R.2.2.2.2.1 R.2.2.2.2.2.1 R.2.2.2.2.2.2.1 typed R.2.2.2.2.2.2.2.1 R.2.2.2.2.2.2.2.2.1 R.2.2.2.2.2.2.2.2.2.1 R.2.2.2.2.2.2.2.2.2.2.1 R.2.2.2.2.2.2.2.2.2.2.2.1 R.2.2.2.2.2.2.2.2.2.2.2.2) [.ref (b 0)] R.1 := by
  refine en_W (cc := cX8_play) (n := 2) (by decide) rfl (Nat.le_of_ble_eq_true rfl) ?_
  intro p e s m args below meth c Q AA ls hx hb hml hown hts hK hN hP hD hS hl ret
  have hown : s.vm.findClass RX8 = some m.cls := hown
  have hF : FX p m c cX8_play 2 s args wsX8_play RX8 D cI cC := ⟨⟨hx, hb, hml, hown, hts⟩, hK, hN⟩
  have hl : lv_has ls 2 [(0, .ref (b 0))] := hl
  have k1_ := hts (.fieldLink RX8 7 "DriftGrindersModel" "s" "[I") (List.mem_of_getElem? (i := 1) rfl)
  have k2_ := hts (.fieldLink RX8 16 "DriftGrindersModel" "held" "[I") (List.mem_of_getElem? (i := 2) rfl)
  have k3_ := hts (.constant RX8 79 (-1000002)) (List.mem_of_getElem? (i := 3) rfl)
  have k4_ := hts (.fieldLink RX8 162 "DriftGrindersModel" "orders" "I") (List.mem_of_getElem? (i := 4) rfl)
  have k5_ := hts (.constant RX8 96 (-1000004)) (List.mem_of_getElem? (i := 5) rfl)
  have n8_ : ∀ w ∈ wsX80, w ∈ wsX8_play := fun _ h => List.mem_cons_of_mem _ (List.mem_append_right _ h)
  rw [f_X8_play] at hf
  obtain ⟨H, hH⟩ : ∃ z : Heap, z = s.heap := ⟨_, rfl⟩
  obtain ⟨locs, hL⟩ : ∃ z : List Loc, z = [] := ⟨_, rfl⟩
  replace hP := hH ▸ hP
  replace hS : va_S AA s.heap H locs := by rw [hH, hL]; exact hS
  suffices hgoal : W p l e rmX8_play s m args below meth c H locs 0 0 Q (F0 m 0 ls []) by rw [hH, hL] at hgoal; exact hgoal
  clear hH hL
  refine lv_aload_n hx hb dX8_play_0 rfl (lv_at hl 0 rfl) ?_
  refine va_get hx hb hts n8_ hown hK hP 0 rfl rfl 0 (Nat.le_of_ble_eq_true rfl) k1_ (fun _ h => h) rfl dX8_play_1 ?_
  refine lv_aload_n hx hb dX8_play_4 rfl (lv_at hl 0 rfl) ?_
  refine va_get hx hb hts n8_ hown hK hP 0 rfl rfl 2 (Nat.le_of_ble_eq_true rfl) k2_ (fun _ h => h) rfl dX8_play_5 ?_
  obtain ⟨q1, hq1, hf⟩ := ob hf
  refine cl_VS (W1 := (w_model cI cC b S P q1 Tr Tx told pasts runs typed spot frm reas caus ords ordr)) (As := [.ref (b 1), .ref (b 3)]) (rest := []) hF hP hD hS (c_X8_copies (b 1) (b 3) S Hd q1 hq1) (va_cwS 2 hts gX8_play_X8_copies rfl rfl rfl (by decide +kernel) ⟨(Nat.le_of_ble_eq_true rfl), (Nat.le_of_ble_eq_true rfl)⟩) [1, 3] rfl (by decide +kernel) rfl rfl hl.1 (Nat.le_of_ble_eq_true rfl) dX8_play_8 ⟨Nat.zero_le _, Nat.zero_le _⟩ (hA2 [(b 1), (b 3)] rfl rfl) [0, 2, 4, 5, 6] rfl [((b 0), .inr (8, [.ref (b 1), .ref (b 2), .ref (b 3), .ref (b 4), .int pasts, .int runs, .ref (b 5), .int typed, .int spot, .int frm, .int reas, .int caus, .int ords, .int ordr, .ref (b 6)])), ((b 2), .inl (cI, 2524, .inl P)), ((b 4), .inl (cI, 631, .inl Tr)), ((b 5), .inl (cI, 60, .inl Tx)), ((b 6), .inl (cI, 2, .inl told))] rfl rfl (nW := 7) rfl (by decide +kernel) (fun H locs hP hD hS => ?_)
  refine lv_aload_n hx hb dX8_play_11 rfl (lv_at hl 0 rfl) ?_
  obtain ⟨q2, hq2, hf⟩ := ob hf
  refine cl_WV (W1 := (w_model cI cC b q2.2.1 q2.2.2.1 q1 Tr Tx q2.2.2.2.1 q2.2.2.2.2.1 q2.2.2.2.2.2.1 typed q2.2.2.2.2.2.2.1 q2.2.2.2.2.2.2.2.1 q2.2.2.2.2.2.2.2.2.1 q2.2.2.2.2.2.2.2.2.2.1 q2.2.2.2.2.2.2.2.2.2.2.1 q2.2.2.2.2.2.2.2.2.2.2.2)) (As := []) (rest := []) hF hP hD hS (c_X8_plays b S P q1 Tr Tx told pasts runs typed spot frm reas caus ords ordr q2 hq2) (cwV 0 hts gX8_play_X8_plays rfl rfl rfl (by decide +kernel) ⟨(Nat.le_of_ble_eq_true rfl), (Nat.le_of_ble_eq_true rfl)⟩) [0, 1, 2, 3, 4, 5, 6] rfl (by decide +kernel) (va_recv hK hP (ci := 8) (q0 := 0) rfl rfl) rfl rfl hl.1 (Nat.le_of_ble_eq_true rfl) dX8_play_12 ⟨Nat.zero_le _, Nat.zero_le _⟩ (hA2 [(b 0), (b 1), (b 2), (b 3), (b 4), (b 5), (b 6)] rfl rfl) [] rfl [] rfl rfl (nW := 7) rfl (by decide +kernel) (fun H locs hP hD hS => ?_)
  refine lv_istore_n (lv' := [(1, .int q2.1), (0, .ref (b 0))]) hx hb dX8_play_15 rfl hl (by decide) rfl (fun ls hl => ?_)
  refine lv_aload_n hx hb dX8_play_16 rfl (lv_at hl 1 rfl) ?_
  refine va_get hx hb hts n8_ hown hK hP 0 rfl rfl 2 (Nat.le_of_ble_eq_true rfl) k2_ (fun _ h => h) rfl dX8_play_17 ?_
  refine lv_aload_n hx hb dX8_play_20 rfl (lv_at hl 1 rfl) ?_
  refine va_get hx hb hts n8_ hown hK hP 0 rfl rfl 0 (Nat.le_of_ble_eq_true rfl) k1_ (fun _ h => h) rfl dX8_play_21 ?_
  obtain ⟨q3, hq3, hf⟩ := ob hf
  refine cl_VS (W1 := (w_model cI cC b q3 q2.2.2.1 q1 Tr Tx q2.2.2.2.1 q2.2.2.2.2.1 q2.2.2.2.2.2.1 typed q2.2.2.2.2.2.2.1 q2.2.2.2.2.2.2.2.1 q2.2.2.2.2.2.2.2.2.1 q2.2.2.2.2.2.2.2.2.2.1 q2.2.2.2.2.2.2.2.2.2.2.1 q2.2.2.2.2.2.2.2.2.2.2.2)) (As := [.ref (b 3), .ref (b 1)]) (rest := []) hF hP hD hS (c_X8_copies (b 3) (b 1) q1 q2.2.1 q3 hq3) (va_cwS 2 hts gX8_play_X8_copies rfl rfl rfl (by decide +kernel) ⟨(Nat.le_of_ble_eq_true rfl), (Nat.le_of_ble_eq_true rfl)⟩) [3, 1] rfl (by decide +kernel) rfl rfl hl.1 (Nat.le_of_ble_eq_true rfl) dX8_play_24 ⟨Nat.zero_le _, Nat.zero_le _⟩ (hA2 [(b 3), (b 1)] rfl rfl) [0, 2, 4, 5, 6] rfl [((b 0), .inr (8, [.ref (b 1), .ref (b 2), .ref (b 3), .ref (b 4), .int q2.2.2.2.2.1, .int q2.2.2.2.2.2.1, .ref (b 5), .int typed, .int q2.2.2.2.2.2.2.1, .int q2.2.2.2.2.2.2.2.1, .int q2.2.2.2.2.2.2.2.2.1, .int q2.2.2.2.2.2.2.2.2.2.1, .int q2.2.2.2.2.2.2.2.2.2.2.1, .int q2.2.2.2.2.2.2.2.2.2.2.2, .ref (b 6)])), ((b 2), .inl (cI, 2524, .inl q2.2.2.1)), ((b 4), .inl (cI, 631, .inl Tr)), ((b 5), .inl (cI, 60, .inl Tx)), ((b 6), .inl (cI, 2, .inl q2.2.2.2.1))] rfl rfl (nW := 7) rfl (by decide +kernel) (fun H locs hP hD hS => ?_)
  refine lv_iload_n hx hb dX8_play_27 rfl (lv_at hl 0 rfl) ?_
  refine lv_if_ne (tgt := 34) hx hb dX8_play_28 (by decide) (fun hc4 => ?_) (fun hc4 => ?_)
  · replace hf := ie hc4 hf
    refine lv_aload_n hx hb dX8_play_34 rfl (lv_at hl 1 rfl) ?_
    obtain ⟨q5, hq5, hf⟩ := ob hf
    refine cl_VV (W1 := (w_model cI cC b q3 q5.1 q1 Tr Tx q2.2.2.2.1 q5.2 q2.2.2.2.2.2.1 typed q2.2.2.2.2.2.2.1 q2.2.2.2.2.2.2.2.1 q2.2.2.2.2.2.2.2.2.1 q2.2.2.2.2.2.2.2.2.2.1 q2.2.2.2.2.2.2.2.2.2.2.1 q2.2.2.2.2.2.2.2.2.2.2.2)) (As := []) (rest := []) hF hP hD hS (c_X8_changes b q3 q2.2.2.1 q1 Tr Tx q2.2.2.2.1 q2.2.2.2.2.1 q2.2.2.2.2.2.1 typed q2.2.2.2.2.2.2.1 q2.2.2.2.2.2.2.2.1 q2.2.2.2.2.2.2.2.2.1 q2.2.2.2.2.2.2.2.2.2.1 q2.2.2.2.2.2.2.2.2.2.2.1 q2.2.2.2.2.2.2.2.2.2.2.2 q5 hq5) (cwV 0 hts gX8_play_X8_changes rfl rfl rfl (by decide +kernel) ⟨(Nat.le_of_ble_eq_true rfl), (Nat.le_of_ble_eq_true rfl)⟩) [0, 1, 2, 3, 4, 5, 6] rfl (by decide +kernel) (va_recv hK hP (ci := 8) (q0 := 0) rfl rfl) rfl rfl hl.1 (Nat.le_of_ble_eq_true rfl) dX8_play_35 ⟨Nat.zero_le _, Nat.zero_le _⟩ (hA2 [(b 0), (b 1), (b 2), (b 3), (b 4), (b 5), (b 6)] rfl rfl) [] rfl [] rfl rfl (nW := 7) rfl (by decide +kernel) (fun H locs hP hD hS => ?_)
    refine lv_aload_n hx hb dX8_play_38 rfl (lv_at hl 1 rfl) ?_
    obtain ⟨q6, hq6, hf⟩ := ob hf
    refine cl_WV (W1 := (w_model cI cC b q6.2.1 q6.2.2.1 q1 Tr Tx q6.2.2.2.1 q6.2.2.2.2.1 q6.2.2.2.2.2.1 typed q6.2.2.2.2.2.2.1 q6.2.2.2.2.2.2.2.1 q6.2.2.2.2.2.2.2.2.1 q6.2.2.2.2.2.2.2.2.2.1 q6.2.2.2.2.2.2.2.2.2.2.1 q6.2.2.2.2.2.2.2.2.2.2.2)) (As := []) (rest := []) hF hP hD hS (c_X8_plays b q3 q5.1 q1 Tr Tx q2.2.2.2.1 q5.2 q2.2.2.2.2.2.1 typed q2.2.2.2.2.2.2.1 q2.2.2.2.2.2.2.2.1 q2.2.2.2.2.2.2.2.2.1 q2.2.2.2.2.2.2.2.2.2.1 q2.2.2.2.2.2.2.2.2.2.2.1 q2.2.2.2.2.2.2.2.2.2.2.2 q6 hq6) (cwV 0 hts gX8_play_X8_plays rfl rfl rfl (by decide +kernel) ⟨(Nat.le_of_ble_eq_true rfl), (Nat.le_of_ble_eq_true rfl)⟩) [0, 1, 2, 3, 4, 5, 6] rfl (by decide +kernel) (va_recv hK hP (ci := 8) (q0 := 0) rfl rfl) rfl rfl hl.1 (Nat.le_of_ble_eq_true rfl) dX8_play_39 ⟨Nat.zero_le _, Nat.zero_le _⟩ (hA2 [(b 0), (b 1), (b 2), (b 3), (b 4), (b 5), (b 6)] rfl rfl) [] rfl [] rfl rfl (nW := 7) rfl (by decide +kernel) (fun H locs hP hD hS => ?_)
    refine lv_if_eq (tgt := 52) hx hb dX8_play_42 (by decide) (fun hc7 => ?_) (fun hc7 => ?_)
    · replace hf := it hc7 hf
      refine lv_ldc hx hb hown k5_ dX8_play_52 ?_
      obtain rfl := Option.some.inj hf
      exact ret 54 ls _ H locs dX8_play_54 rfl rfl hP hS
    · replace hf := ie hc7 hf
      refine lv_aload_n hx hb dX8_play_45 rfl (lv_at hl 1 rfl) ?_
      refine va_get hx hb hts n8_ hown hK hP 0 rfl rfl 12 (Nat.le_of_ble_eq_true rfl) k4_ (fun _ h => h) rfl dX8_play_46 ?_
      refine lv_goto (tgt := 54) hx hb dX8_play_49 (by decide) ?_
      obtain rfl := Option.some.inj hf
      exact ret 54 ls _ H locs dX8_play_54 rfl rfl hP hS
  · replace hf := it hc4 hf
    refine lv_ldc hx hb hown k3_ dX8_play_31 ?_
    obtain rfl := Option.some.inj hf
    exact ret 33 ls _ H locs dX8_play_33 rfl rfl hP hS
end
