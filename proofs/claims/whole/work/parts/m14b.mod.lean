section
variable {l : Launch} {D : va_G} {cI cC : ClassId}
abbrev rmX8_fill : Room := { frames := 3, cells := 0, slots := 0, locals := 42 }
set_option maxHeartbeats 4000000 in
set_option maxRecDepth 100000 in
theorem c_X8_fill (b : Nat → Nat) (x1 : Int32) (x2 : Int32) (S : Nat → Int32) (P : Nat → Int32) (Hd : Nat → Int32) (Tr : Nat → Int32) (Tx : Nat → Int32) (told : Nat → Int32) (pasts : Int32) (runs : Int32) (typed : Int32) (spot : Int32) (frm : Int32) (reas : Int32) (caus : Int32) (ords : Int32) (ordr : Int32) (R : Int32 × (Nat → Int32) × (Nat → Int32) × Int32) (hf : f_X8_fill x1 x2 S P pasts runs = some R) : WrI l yX8_fill wsX8_fill rmX8_fill D cI cC (w_model cI cC b S P Hd Tr Tx told pasts runs typed spot frm reas caus ords ordr) (w_model cI cC b R.2.1 R.2.2.1 Hd Tr Tx told R.2.2.2 runs typed spot frm reas caus ords ordr) [.ref (b 0), .int x1, .int x2] R.1 := by
  refine en_W (cc := cX8_fill) (n := 5) (by decide) rfl (Nat.le_of_ble_eq_true rfl) ?_
  intro p e s m args below meth c Q AA ls hx hb hml hown hts hK hN hP hD hS hl ret
  have hown : s.vm.findClass RX8 = some m.cls := hown
  have hF : FX p m c cX8_fill 5 s args wsX8_fill RX8 D cI cC := ⟨⟨hx, hb, hml, hown, hts⟩, hK, hN⟩
  have hl : lv_has ls 5 [(0, .ref (b 0)), (1, .int x1), (2, .int x2)] := hl
  have k1_ := hts (.constant RX8 64 (-1000001)) (List.mem_of_getElem? (i := 1) rfl)
  have k2_ := hts (.fieldLink RX8 7 "DriftGrindersModel" "s" "[I") (List.mem_of_getElem? (i := 2) rfl)
  have k3_ := hts (.constant RX8 69 (-1000003)) (List.mem_of_getElem? (i := 3) rfl)
  have n8_ : ∀ w ∈ wsX80, w ∈ wsX8_fill := fun _ h => List.mem_cons_of_mem _ (List.mem_append_right _ h)
  have J167 : ∀ (y2_167 : Int32) (S_167 : Nat → Int32) (P_167 : Nat → Int32) (pasts_167 : Int32) (H : Heap) (locs : List Loc), va_P D vwCl (w_model cI cC b S_167 P_167 Hd Tr Tx told pasts_167 runs typed spot frm reas caus ords ordr) H → va_D AA (w_model cI cC b S_167 P_167 Hd Tr Tx told pasts_167 runs typed spot frm reas caus ords ordr) → va_S AA s.heap H locs → ∀ ls : Array Slot, lv_has ls 5 [(0, .ref (b 0)), (2, .int y2_167)] → f_X8_fill_J167 runs y2_167 S_167 P_167 pasts_167 = some R → W p l e rmX8_fill s m args below meth c H locs 0 0 Q (F0 m 167 ls []) := by
    intro y2_167 S_167 P_167 pasts_167 H locs hP hD hS ls hl hf
    rw [f_X8_fill_J167] at hf
    refine lv_aload_n hx hb dX8_fill_167 rfl (lv_at hl 0 rfl) ?_
    refine va_get hx hb hts n8_ hown hK hP 0 rfl rfl 0 (Nat.le_of_ble_eq_true rfl) k2_ (fun _ h => h) rfl dX8_fill_168 ?_
    refine lv_iconst (v := (1 : Int32)) hx hb dX8_fill_171 (by decide) ?_
    refine lv_dup2_11 hx hb dX8_fill_172 rfl rfl ?_
    refine va_iald hx hb hK hP 1 0 rfl rfl (show ¬ ((1 : Int32) < 0 ∨ 631 ≤ (1 : Int32).toNatClampNeg) by decide) dX8_fill_173 ?_
    refine lv_iload_n hx hb dX8_fill_174 rfl (lv_at hl 1 rfl) ?_
    refine lv_iadd hx hb dX8_fill_175 ?_
    refine lv_topi (fun v26 ev26 => ?_)
    replace hf := lt_e ev26 hf
    refine x_iast hx hb hK hP hD hS 1 0 rfl rfl (show ¬ ((1 : Int32) < 0 ∨ 631 ≤ (1 : Int32).toNatClampNeg) by decide) dX8_fill_176 (fun Z27 H locs eZ27 hP hD hS => ?_)
    replace hf := lt_e eZ27 hf
    have hP : va_P D vwCl (w_model cI cC b Z27 P_167 Hd Tr Tx told pasts_167 runs typed spot frm reas caus ords ordr) H := hP
    have hD : va_D AA (w_model cI cC b Z27 P_167 Hd Tr Tx told pasts_167 runs typed spot frm reas caus ords ordr) := hD
    refine lv_aload_n hx hb dX8_fill_177 rfl (lv_at hl 0 rfl) ?_
    obtain ⟨q28, hq28, hf⟩ := ob hf
    refine cl_RV (As := []) (rest := []) hF hP hD (c_X8_hopper b Z27 P_167 Hd Tr Tx told pasts_167 runs typed spot frm reas caus ords ordr q28 hq28) (cwV 0 hts gX8_fill_X8_hopper rfl rfl rfl (by decide +kernel) ⟨(Nat.le_of_ble_eq_true rfl), (Nat.le_of_ble_eq_true rfl)⟩) [0, 1, 2, 3, 4, 5, 6] rfl (by decide +kernel) (va_recv hK hP (ci := 8) (q0 := 0) rfl rfl) rfl rfl hl.1 (Nat.le_of_ble_eq_true rfl) dX8_fill_178 ⟨Nat.zero_le _, Nat.zero_le _⟩ ?_
    obtain rfl := Option.some.inj hf
    exact ret 181 ls _ H locs dX8_fill_181 rfl rfl hP hS
  have J74 : ∀ (y1_74 : Int32) (y2_74 : Int32) (y3_74 : Int32) (y4_74 : Int32) (S_74 : Nat → Int32) (P_74 : Nat → Int32) (pasts_74 : Int32) (H : Heap) (locs : List Loc), va_P D vwCl (w_model cI cC b S_74 P_74 Hd Tr Tx told pasts_74 runs typed spot frm reas caus ords ordr) H → va_D AA (w_model cI cC b S_74 P_74 Hd Tr Tx told pasts_74 runs typed spot frm reas caus ords ordr) → va_S AA s.heap H locs → ∀ ls : Array Slot, lv_has ls 5 [(0, .ref (b 0)), (1, .int y1_74), (2, .int y2_74), (3, .int y3_74), (4, .int y4_74)] → f_X8_fill_J74 runs y1_74 y2_74 y3_74 y4_74 S_74 P_74 pasts_74 = some R → W p l e rmX8_fill s m args below meth c H locs 0 0 Q (F0 m 74 ls []) := by
    intro y1_74 y2_74 y3_74 y4_74 S_74 P_74 pasts_74 H locs hP hD hS ls hl hf
    rw [f_X8_fill_J74] at hf
    refine lv_aload_n hx hb dX8_fill_74 rfl (lv_at hl 0 rfl) ?_
    obtain ⟨q11, hq11, hf⟩ := ob hf
    refine cl_RV (As := []) (rest := []) hF hP hD (c_X8_hopper b S_74 P_74 Hd Tr Tx told pasts_74 runs typed spot frm reas caus ords ordr q11 hq11) (cwV 0 hts gX8_fill_X8_hopper rfl rfl rfl (by decide +kernel) ⟨(Nat.le_of_ble_eq_true rfl), (Nat.le_of_ble_eq_true rfl)⟩) [0, 1, 2, 3, 4, 5, 6] rfl (by decide +kernel) (va_recv hK hP (ci := 8) (q0 := 0) rfl rfl) rfl rfl hl.1 (Nat.le_of_ble_eq_true rfl) dX8_fill_75 ⟨Nat.zero_le _, Nat.zero_le _⟩ ?_
    refine lv_iload_n hx hb dX8_fill_78 rfl (lv_at hl 2 rfl) ?_
    refine lv_iadd hx hb dX8_fill_79 ?_
    refine lv_sipush (v := (4000 : Int32)) hx hb dX8_fill_80 (by decide) ?_
    refine lv_icmp_le (tgt := 89) hx hb dX8_fill_83 (by decide) (fun hc12 => ?_) (fun hc12 => ?_)
    · replace hf := it hc12 hf
      refine lv_aload_n hx hb dX8_fill_89 rfl (lv_at hl 0 rfl) ?_
      obtain ⟨q13, hq13, hf⟩ := ob hf
      refine cl_VV (W1 := (w_model cI cC b S_74 q13.1 Hd Tr Tx told q13.2 runs typed spot frm reas caus ords ordr)) (As := []) (rest := []) hF hP hD hS (c_X8_changes b S_74 P_74 Hd Tr Tx told pasts_74 runs typed spot frm reas caus ords ordr q13 hq13) (cwV 0 hts gX8_fill_X8_changes rfl rfl rfl (by decide +kernel) ⟨(Nat.le_of_ble_eq_true rfl), (Nat.le_of_ble_eq_true rfl)⟩) [0, 1, 2, 3, 4, 5, 6] rfl (by decide +kernel) (va_recv hK hP (ci := 8) (q0 := 0) rfl rfl) rfl rfl hl.1 (Nat.le_of_ble_eq_true rfl) dX8_fill_90 ⟨Nat.zero_le _, Nat.zero_le _⟩ (hA2 [(b 0), (b 1), (b 2), (b 3), (b 4), (b 5), (b 6)] rfl rfl) [] rfl [] rfl rfl (nW := 7) rfl (by decide +kernel) (fun H locs hP hD hS => ?_)
      refine lv_iload hx hb dX8_fill_93 (lv_at hl 4 rfl) ?_
      refine lv_if_eq (tgt := 118) hx hb dX8_fill_95 (by decide) (fun hc14 => ?_) (fun hc14 => ?_)
      · replace hf := it hc14 hf
        refine lv_aload_n hx hb dX8_fill_118 rfl (lv_at hl 0 rfl) ?_
        refine va_get hx hb hts n8_ hown hK hP 0 rfl rfl 0 (Nat.le_of_ble_eq_true rfl) k2_ (fun _ h => h) rfl dX8_fill_119 ?_
        refine lv_bipush (v := (22 : Int32)) hx hb dX8_fill_122 (by decide) ?_
        refine lv_iconst (v := (2 : Int32)) hx hb dX8_fill_124 (by decide) ?_
        refine lv_aload_n hx hb dX8_fill_125 rfl (lv_at hl 0 rfl) ?_
        refine va_get hx hb hts n8_ hown hK hP 0 rfl rfl 0 (Nat.le_of_ble_eq_true rfl) k2_ (fun _ h => h) rfl dX8_fill_126 ?_
        refine lv_bipush (v := (21 : Int32)) hx hb dX8_fill_129 (by decide) ?_
        refine va_iald hx hb hK hP 1 0 rfl rfl (show ¬ ((21 : Int32) < 0 ∨ 631 ≤ (21 : Int32).toNatClampNeg) by decide) dX8_fill_131 ?_
        refine lv_imul hx hb dX8_fill_132 ?_
        refine lv_iadd hx hb dX8_fill_133 ?_
        refine lv_iload_n hx hb dX8_fill_134 rfl (lv_at hl 1 rfl) ?_
        obtain ⟨hg15, hf⟩ := gd_s hf
        refine x_iast hx hb hK hP hD hS 1 0 rfl rfl hg15 dX8_fill_135 (fun Z16 H locs eZ16 hP hD hS => ?_)
        replace hf := lt_e eZ16 hf
        have hP : va_P D vwCl (w_model cI cC b Z16 q13.1 Hd Tr Tx told q13.2 runs typed spot frm reas caus ords ordr) H := hP
        have hD : va_D AA (w_model cI cC b Z16 q13.1 Hd Tr Tx told q13.2 runs typed spot frm reas caus ords ordr) := hD
        refine lv_aload_n hx hb dX8_fill_136 rfl (lv_at hl 0 rfl) ?_
        refine va_get hx hb hts n8_ hown hK hP 0 rfl rfl 0 (Nat.le_of_ble_eq_true rfl) k2_ (fun _ h => h) rfl dX8_fill_137 ?_
        refine lv_bipush (v := (22 : Int32)) hx hb dX8_fill_140 (by decide) ?_
        refine lv_iconst (v := (2 : Int32)) hx hb dX8_fill_142 (by decide) ?_
        refine lv_aload_n hx hb dX8_fill_143 rfl (lv_at hl 0 rfl) ?_
        refine va_get hx hb hts n8_ hown hK hP 0 rfl rfl 0 (Nat.le_of_ble_eq_true rfl) k2_ (fun _ h => h) rfl dX8_fill_144 ?_
        refine lv_bipush (v := (21 : Int32)) hx hb dX8_fill_147 (by decide) ?_
        refine va_iald hx hb hK hP 1 0 rfl rfl (show ¬ ((21 : Int32) < 0 ∨ 631 ≤ (21 : Int32).toNatClampNeg) by decide) dX8_fill_149 ?_
        refine lv_imul hx hb dX8_fill_150 ?_
        refine lv_iadd hx hb dX8_fill_151 ?_
        refine lv_iconst (v := (1 : Int32)) hx hb dX8_fill_152 (by decide) ?_
        refine lv_iadd hx hb dX8_fill_153 ?_
        refine lv_iload_n hx hb dX8_fill_154 rfl (lv_at hl 2 rfl) ?_
        obtain ⟨hg17, hf⟩ := gd_s hf
        refine x_iast hx hb hK hP hD hS 1 0 rfl rfl hg17 dX8_fill_155 (fun Z18 H locs eZ18 hP hD hS => ?_)
        replace hf := lt_e eZ18 hf
        have hP : va_P D vwCl (w_model cI cC b Z18 q13.1 Hd Tr Tx told q13.2 runs typed spot frm reas caus ords ordr) H := hP
        have hD : va_D AA (w_model cI cC b Z18 q13.1 Hd Tr Tx told q13.2 runs typed spot frm reas caus ords ordr) := hD
        refine lv_aload_n hx hb dX8_fill_156 rfl (lv_at hl 0 rfl) ?_
        refine va_get hx hb hts n8_ hown hK hP 0 rfl rfl 0 (Nat.le_of_ble_eq_true rfl) k2_ (fun _ h => h) rfl dX8_fill_157 ?_
        refine lv_bipush (v := (21 : Int32)) hx hb dX8_fill_160 (by decide) ?_
        refine lv_dup2_11 hx hb dX8_fill_162 rfl rfl ?_
        refine va_iald hx hb hK hP 1 0 rfl rfl (show ¬ ((21 : Int32) < 0 ∨ 631 ≤ (21 : Int32).toNatClampNeg) by decide) dX8_fill_163 ?_
        refine lv_iconst (v := (1 : Int32)) hx hb dX8_fill_164 (by decide) ?_
        refine lv_iadd hx hb dX8_fill_165 ?_
        refine lv_topi (fun v19 ev19 => ?_)
        replace hf := lt_e ev19 hf
        refine x_iast hx hb hK hP hD hS 1 0 rfl rfl (show ¬ ((21 : Int32) < 0 ∨ 631 ≤ (21 : Int32).toNatClampNeg) by decide) dX8_fill_166 (fun Z20 H locs eZ20 hP hD hS => ?_)
        replace hf := lt_e eZ20 hf
        have hP : va_P D vwCl (w_model cI cC b Z20 q13.1 Hd Tr Tx told q13.2 runs typed spot frm reas caus ords ordr) H := hP
        have hD : va_D AA (w_model cI cC b Z20 q13.1 Hd Tr Tx told q13.2 runs typed spot frm reas caus ords ordr) := hD
        exact J167 y2_74 Z20 q13.1 q13.2 H locs hP hD hS ls (lv_sub hl [0, 2] rfl) hf
      · replace hf := ie hc14 hf
        refine lv_aload_n hx hb dX8_fill_98 rfl (lv_at hl 0 rfl) ?_
        refine va_get hx hb hts n8_ hown hK hP 0 rfl rfl 0 (Nat.le_of_ble_eq_true rfl) k2_ (fun _ h => h) rfl dX8_fill_99 ?_
        refine lv_bipush (v := (22 : Int32)) hx hb dX8_fill_102 (by decide) ?_
        refine lv_iconst (v := (2 : Int32)) hx hb dX8_fill_104 (by decide) ?_
        refine lv_iload_n hx hb dX8_fill_105 rfl (lv_at hl 3 rfl) ?_
        refine lv_imul hx hb dX8_fill_106 ?_
        refine lv_iadd hx hb dX8_fill_107 ?_
        refine lv_iconst (v := (1 : Int32)) hx hb dX8_fill_108 (by decide) ?_
        refine lv_iadd hx hb dX8_fill_109 ?_
        refine lv_topi (fun v21 ev21 => ?_)
        replace hf := lt_e ev21 hf
        refine lv_dup2_11 hx hb dX8_fill_110 rfl rfl ?_
        obtain ⟨hg22, hf⟩ := gd_s hf
        refine va_iald hx hb hK hP 1 0 rfl rfl hg22 dX8_fill_111 ?_
        refine lv_iload_n hx hb dX8_fill_112 rfl (lv_at hl 2 rfl) ?_
        refine lv_iadd hx hb dX8_fill_113 ?_
        refine lv_topi (fun v23 ev23 => ?_)
        replace hf := lt_e ev23 hf
        obtain ⟨hg24, hf⟩ := gd_s hf
        refine x_iast hx hb hK hP hD hS 1 0 rfl rfl hg24 dX8_fill_114 (fun Z25 H locs eZ25 hP hD hS => ?_)
        replace hf := lt_e eZ25 hf
        have hP : va_P D vwCl (w_model cI cC b Z25 q13.1 Hd Tr Tx told q13.2 runs typed spot frm reas caus ords ordr) H := hP
        have hD : va_D AA (w_model cI cC b Z25 q13.1 Hd Tr Tx told q13.2 runs typed spot frm reas caus ords ordr) := hD
        refine lv_goto (tgt := 167) hx hb dX8_fill_115 (by decide) ?_
        exact J167 y2_74 Z25 q13.1 q13.2 H locs hP hD hS ls (lv_sub hl [0, 2] rfl) hf
    · replace hf := ie hc12 hf
      refine lv_ldc hx hb hown k3_ dX8_fill_86 ?_
      obtain rfl := Option.some.inj hf
      exact ret 88 ls _ H locs dX8_fill_88 rfl rfl hP hS
  have J55 : ∀ (y1_55 : Int32) (y2_55 : Int32) (y3_55 : Int32) (z0_55 : Int32) (S_55 : Nat → Int32) (P_55 : Nat → Int32) (pasts_55 : Int32) (H : Heap) (locs : List Loc), va_P D vwCl (w_model cI cC b S_55 P_55 Hd Tr Tx told pasts_55 runs typed spot frm reas caus ords ordr) H → va_D AA (w_model cI cC b S_55 P_55 Hd Tr Tx told pasts_55 runs typed spot frm reas caus ords ordr) → va_S AA s.heap H locs → ∀ ls : Array Slot, lv_has ls 5 [(0, .ref (b 0)), (1, .int y1_55), (2, .int y2_55), (3, .int y3_55)] → f_X8_fill_J55 runs y1_55 y2_55 y3_55 z0_55 S_55 P_55 pasts_55 = some R → W p l e rmX8_fill s m args below meth c H locs 0 0 Q (F0 m 55 ls [.int z0_55]) := by
    intro y1_55 y2_55 y3_55 z0_55 S_55 P_55 pasts_55 H locs hP hD hS ls hl hf
    rw [f_X8_fill_J55] at hf
    refine lv_istore (lv' := [(4, .int z0_55), (0, .ref (b 0)), (1, .int y1_55), (2, .int y2_55), (3, .int y3_55)]) hx hb dX8_fill_55 hl (by decide) rfl (fun ls hl => ?_)
    refine lv_iload hx hb dX8_fill_57 (lv_at hl 0 rfl) ?_
    refine lv_if_ne (tgt := 74) hx hb dX8_fill_59 (by decide) (fun hc9 => ?_) (fun hc9 => ?_)
    · replace hf := ie hc9 hf
      exact J74 y1_55 y2_55 y3_55 z0_55 S_55 P_55 pasts_55 H locs hP hD hS ls (lv_sub hl [1, 2, 3, 4, 0] rfl) hf
    · replace hf := it hc9 hf
      refine lv_aload_n hx hb dX8_fill_62 rfl (lv_at hl 1 rfl) ?_
      refine va_get hx hb hts n8_ hown hK hP 0 rfl rfl 0 (Nat.le_of_ble_eq_true rfl) k2_ (fun _ h => h) rfl dX8_fill_63 ?_
      refine lv_bipush (v := (21 : Int32)) hx hb dX8_fill_66 (by decide) ?_
      refine va_iald hx hb hK hP 1 0 rfl rfl (show ¬ ((21 : Int32) < 0 ∨ 631 ≤ (21 : Int32).toNatClampNeg) by decide) dX8_fill_68 ?_
      refine lv_bipush (v := (6 : Int32)) hx hb dX8_fill_69 (by decide) ?_
      refine lv_icmp_eq (tgt := 86) hx hb dX8_fill_71 (by decide) (fun hc10 => ?_) (fun hc10 => ?_)
      · replace hf := it hc10 hf
        refine lv_ldc hx hb hown k3_ dX8_fill_86 ?_
        obtain rfl := Option.some.inj hf
        exact ret 88 ls _ H locs dX8_fill_88 rfl rfl hP hS
      · replace hf := ie hc10 hf
        exact J74 y1_55 y2_55 y3_55 z0_55 S_55 P_55 pasts_55 H locs hP hD hS ls (lv_sub hl [1, 2, 3, 4, 0] rfl) hf
  have J54 : ∀ (y1_54 : Int32) (y2_54 : Int32) (y3_54 : Int32) (S_54 : Nat → Int32) (P_54 : Nat → Int32) (pasts_54 : Int32) (H : Heap) (locs : List Loc), va_P D vwCl (w_model cI cC b S_54 P_54 Hd Tr Tx told pasts_54 runs typed spot frm reas caus ords ordr) H → va_D AA (w_model cI cC b S_54 P_54 Hd Tr Tx told pasts_54 runs typed spot frm reas caus ords ordr) → va_S AA s.heap H locs → ∀ ls : Array Slot, lv_has ls 5 [(0, .ref (b 0)), (1, .int y1_54), (2, .int y2_54), (3, .int y3_54)] → f_X8_fill_J54 runs y1_54 y2_54 y3_54 S_54 P_54 pasts_54 = some R → W p l e rmX8_fill s m args below meth c H locs 0 0 Q (F0 m 54 ls []) := by
    intro y1_54 y2_54 y3_54 S_54 P_54 pasts_54 H locs hP hD hS ls hl hf
    rw [f_X8_fill_J54] at hf
    refine lv_iconst (v := (0 : Int32)) hx hb dX8_fill_54 (by decide) ?_
    exact J55 y1_54 y2_54 y3_54 (0 : Int32) S_54 P_54 pasts_54 H locs hP hD hS ls (lv_sub hl [0, 1, 2, 3] rfl) hf
  rw [f_X8_fill] at hf
  obtain ⟨H, hH⟩ : ∃ z : Heap, z = s.heap := ⟨_, rfl⟩
  obtain ⟨locs, hL⟩ : ∃ z : List Loc, z = [] := ⟨_, rfl⟩
  replace hP := hH ▸ hP
  replace hS : va_S AA s.heap H locs := by rw [hH, hL]; exact hS
  suffices hgoal : W p l e rmX8_fill s m args below meth c H locs 0 0 Q (F0 m 0 ls []) by rw [hH, hL] at hgoal; exact hgoal
  clear hH hL
  refine lv_iload_n hx hb dX8_fill_0 rfl (lv_at hl 1 rfl) ?_
  obtain ⟨q1, hq1, hf⟩ := ob hf
  refine cl_RS (As := [.int x1]) (rest := []) hF hP hD (c_X8_isOne x1 q1 hq1) (va_cwS 1 hts gX8_fill_X8_isOne rfl rfl rfl (by decide +kernel) ⟨(Nat.le_of_ble_eq_true rfl), (Nat.le_of_ble_eq_true rfl)⟩) [] rfl (by decide +kernel) rfl rfl hl.1 (Nat.le_of_ble_eq_true rfl) dX8_fill_1 ⟨Nat.zero_le _, Nat.zero_le _⟩ ?_
  refine lv_if_eq (tgt := 18) hx hb dX8_fill_4 (by decide) (fun hc2 => ?_) (fun hc2 => ?_)
  · replace hf := it hc2 hf
    refine lv_ldc hx hb hown k1_ dX8_fill_18 ?_
    obtain rfl := Option.some.inj hf
    exact ret 20 ls _ H locs dX8_fill_20 rfl rfl hP hS
  · replace hf := ie hc2 hf
    refine lv_iload_n hx hb dX8_fill_7 rfl (lv_at hl 2 rfl) ?_
    refine lv_iconst (v := (1 : Int32)) hx hb dX8_fill_8 (by decide) ?_
    refine lv_sipush (v := (999 : Int32)) hx hb dX8_fill_9 (by decide) ?_
    obtain ⟨q3, hq3, hf⟩ := ob hf
    refine cl_RS (As := [.int x2, .int (1 : Int32), .int (999 : Int32)]) (rest := []) hF hP hD (c_X8_in x2 (1 : Int32) (999 : Int32) q3 hq3) (va_cwS 3 hts gX8_fill_X8_in rfl rfl rfl (by decide +kernel) ⟨(Nat.le_of_ble_eq_true rfl), (Nat.le_of_ble_eq_true rfl)⟩) [] rfl (by decide +kernel) rfl rfl hl.1 (Nat.le_of_ble_eq_true rfl) dX8_fill_12 ⟨Nat.zero_le _, Nat.zero_le _⟩ ?_
    refine lv_if_ne (tgt := 21) hx hb dX8_fill_15 (by decide) (fun hc4 => ?_) (fun hc4 => ?_)
    · replace hf := ie hc4 hf
      refine lv_aload_n hx hb dX8_fill_21 rfl (lv_at hl 0 rfl) ?_
      refine va_get hx hb hts n8_ hown hK hP 0 rfl rfl 0 (Nat.le_of_ble_eq_true rfl) k2_ (fun _ h => h) rfl dX8_fill_22 ?_
      refine lv_bipush (v := (21 : Int32)) hx hb dX8_fill_25 (by decide) ?_
      refine va_iald hx hb hK hP 1 0 rfl rfl (show ¬ ((21 : Int32) < 0 ∨ 631 ≤ (21 : Int32).toNatClampNeg) by decide) dX8_fill_27 ?_
      refine lv_iconst (v := (1 : Int32)) hx hb dX8_fill_28 (by decide) ?_
      refine lv_isub hx hb dX8_fill_29 ?_
      refine lv_topi (fun v5 ev5 => ?_)
      replace hf := lt_e ev5 hf
      refine lv_istore_n (lv' := [(3, .int v5), (0, .ref (b 0)), (1, .int x1), (2, .int x2)]) hx hb dX8_fill_30 rfl hl (by decide) rfl (fun ls hl => ?_)
      refine lv_iload_n hx hb dX8_fill_31 rfl (lv_at hl 0 rfl) ?_
      refine lv_if_lt (tgt := 54) hx hb dX8_fill_32 (by decide) (fun hc6 => ?_) (fun hc6 => ?_)
      · replace hf := it hc6 hf
        exact J54 x1 x2 v5 S P pasts H locs hP hD hS ls (lv_sub hl [1, 2, 3, 0] rfl) hf
      · replace hf := ie hc6 hf
        refine lv_aload_n hx hb dX8_fill_35 rfl (lv_at hl 1 rfl) ?_
        refine va_get hx hb hts n8_ hown hK hP 0 rfl rfl 0 (Nat.le_of_ble_eq_true rfl) k2_ (fun _ h => h) rfl dX8_fill_36 ?_
        refine lv_bipush (v := (22 : Int32)) hx hb dX8_fill_39 (by decide) ?_
        refine lv_iconst (v := (2 : Int32)) hx hb dX8_fill_41 (by decide) ?_
        refine lv_iload_n hx hb dX8_fill_42 rfl (lv_at hl 0 rfl) ?_
        refine lv_imul hx hb dX8_fill_43 ?_
        refine lv_iadd hx hb dX8_fill_44 ?_
        obtain ⟨hg7, hf⟩ := gd_s hf
        refine va_iald hx hb hK hP 1 0 rfl rfl hg7 dX8_fill_45 ?_
        refine lv_iload_n hx hb dX8_fill_46 rfl (lv_at hl 2 rfl) ?_
        refine lv_icmp_ne (tgt := 54) hx hb dX8_fill_47 (by decide) (fun hc8 => ?_) (fun hc8 => ?_)
        · replace hf := ie hc8 hf
          exact J54 x1 x2 v5 S P pasts H locs hP hD hS ls (lv_sub hl [1, 2, 3, 0] rfl) hf
        · replace hf := it hc8 hf
          refine lv_iconst (v := (1 : Int32)) hx hb dX8_fill_50 (by decide) ?_
          refine lv_goto (tgt := 55) hx hb dX8_fill_51 (by decide) ?_
          exact J55 x1 x2 v5 (1 : Int32) S P pasts H locs hP hD hS ls (lv_sub hl [1, 2, 3, 0] rfl) hf
    · replace hf := it hc4 hf
      refine lv_ldc hx hb hown k1_ dX8_fill_18 ?_
      obtain rfl := Option.some.inj hf
      exact ret 20 ls _ H locs dX8_fill_20 rfl rfl hP hS
abbrev rmX8_comes : Room := { frames := 3, cells := 0, slots := 0, locals := 43 }
set_option maxHeartbeats 4000000 in
set_option maxRecDepth 100000 in
theorem c_X8_comes (b : Nat → Nat) (x1 : Int32) (x2 : Int32) (S : Nat → Int32) (P : Nat → Int32) (Hd : Nat → Int32) (Tr : Nat → Int32) (Tx : Nat → Int32) (told : Nat → Int32) (pasts : Int32) (runs : Int32) (typed : Int32) (spot : Int32) (frm : Int32) (reas : Int32) (caus : Int32) (ords : Int32) (ordr : Int32) (R : (Nat → Int32)) (hf : f_X8_comes x1 x2 S = some R) : WrV l yX8_comes wsX8_comes rmX8_comes D cI cC (w_model cI cC b S P Hd Tr Tx told pasts runs typed spot frm reas caus ords ordr) (w_model cI cC b R P Hd Tr Tx told pasts runs typed spot frm reas caus ords ordr) [.ref (b 0), .int x1, .int x2] := by
  refine en_V (cc := cX8_comes) (n := 7) (by decide) rfl (Nat.le_of_ble_eq_true rfl) ?_
  intro p e s m args below meth c Q AA ls hx hb hml hown hts hK hN hP hD hS hl ret
  have hown : s.vm.findClass RX8 = some m.cls := hown
  have hF : FX p m c cX8_comes 7 s args wsX8_comes RX8 D cI cC := ⟨⟨hx, hb, hml, hown, hts⟩, hK, hN⟩
  have hl : lv_has ls 7 [(0, .ref (b 0)), (1, .int x1), (2, .int x2)] := hl
  have k1_ := hts (.fieldLink RX8 7 "DriftGrindersModel" "s" "[I") (List.mem_of_getElem? (i := 1) rfl)
  have n8_ : ∀ w ∈ wsX80, w ∈ wsX8_comes := fun _ h => List.mem_cons_of_mem _ (List.mem_append_right _ h)
  have L9 : ∀ n9 : Nat, ∀ (y1_9 : Int32) (y4_9 : Int32) (y3_9 : Int32) (S_9 : Nat → Int32) (H : Heap) (locs : List Loc), va_P D vwCl (w_model cI cC b S_9 P Hd Tr Tx told pasts runs typed spot frm reas caus ords ordr) H → va_D AA (w_model cI cC b S_9 P Hd Tr Tx told pasts runs typed spot frm reas caus ords ordr) → va_S AA s.heap H locs → ∀ ls : Array Slot, lv_has ls 7 [(0, .ref (b 0)), (1, .int y1_9), (3, .int y3_9), (4, .int y4_9)] → f_X8_comes_L9 y1_9 y4_9 n9 y3_9 S_9 = some R → W p l e rmX8_comes s m args below meth c H locs 0 0 Q (F0 m 9 ls []) := by
    intro n9
    induction n9 with
    | zero => intro y1_9 y4_9 y3_9 S_9 H locs hP hD hS ls hl hf; rw [f_X8_comes_L9] at hf; cases hf
    | succ n9 IH9 =>
      intro y1_9 y4_9 y3_9 S_9 H locs hP hD hS ls hl hf
      have J173 : ∀ (y3_173 : Int32) (S_173 : Nat → Int32) (H : Heap) (locs : List Loc), va_P D vwCl (w_model cI cC b S_173 P Hd Tr Tx told pasts runs typed spot frm reas caus ords ordr) H → va_D AA (w_model cI cC b S_173 P Hd Tr Tx told pasts runs typed spot frm reas caus ords ordr) → va_S AA s.heap H locs → ∀ ls : Array Slot, lv_has ls 7 [(0, .ref (b 0)), (1, .int y1_9), (3, .int y3_173), (4, .int y4_9)] → f_X8_comes_J173 (f_X8_comes_L9 y1_9 y4_9 n9) y1_9 y3_173 y4_9 S_173 = some R → W p l e rmX8_comes s m args below meth c H locs 0 0 Q (F0 m 173 ls []) := by
        intro y3_173 S_173 H locs hP hD hS ls hl hf
        rw [f_X8_comes_J173] at hf
        refine lv_goto (tgt := 9) hx hb dX8_comes_173 (by decide) ?_
        exact IH9 y1_9 y4_9 y3_173 S_173 H locs hP hD hS ls (lv_sub hl [0, 1, 2, 3] rfl) hf
      have L131 : ∀ n131 : Nat, ∀ (y3_131 : Int32) (y6_131 : Int32) (S_131 : Nat → Int32) (H : Heap) (locs : List Loc), va_P D vwCl (w_model cI cC b S_131 P Hd Tr Tx told pasts runs typed spot frm reas caus ords ordr) H → va_D AA (w_model cI cC b S_131 P Hd Tr Tx told pasts runs typed spot frm reas caus ords ordr) → va_S AA s.heap H locs → ∀ ls : Array Slot, lv_has ls 7 [(0, .ref (b 0)), (1, .int y1_9), (3, .int y3_131), (4, .int y4_9), (6, .int y6_131)] → f_X8_comes_L131 (f_X8_comes_L9 y1_9 y4_9 n9) y1_9 y3_131 y4_9 n131 y6_131 S_131 = some R → W p l e rmX8_comes s m args below meth c H locs 0 0 Q (F0 m 131 ls []) := by
        intro n131
        induction n131 with
        | zero => intro y3_131 y6_131 S_131 H locs hP hD hS ls hl hf; rw [f_X8_comes_L131] at hf; cases hf
        | succ n131 IH131 =>
          intro y3_131 y6_131 S_131 H locs hP hD hS ls hl hf
          rw [f_X8_comes_L131] at hf
          refine lv_iload hx hb dX8_comes_131 (lv_at hl 4 rfl) ?_
          refine lv_iconst (v := (2 : Int32)) hx hb dX8_comes_133 (by decide) ?_
          refine lv_aload_n hx hb dX8_comes_134 rfl (lv_at hl 0 rfl) ?_
          refine va_get hx hb hts n8_ hown hK hP 0 rfl rfl 0 (Nat.le_of_ble_eq_true rfl) k1_ (fun _ h => h) rfl dX8_comes_135 ?_
          refine lv_bipush (v := (21 : Int32)) hx hb dX8_comes_138 (by decide) ?_
          refine va_iald hx hb hK hP 1 0 rfl rfl (show ¬ ((21 : Int32) < 0 ∨ 631 ≤ (21 : Int32).toNatClampNeg) by decide) dX8_comes_140 ?_
          refine lv_imul hx hb dX8_comes_141 ?_
          refine lv_icmp_ge (tgt := 173) hx hb dX8_comes_142 (by decide) (fun hc15 => ?_) (fun hc15 => ?_)
          · replace hf := it hc15 hf
            exact J173 y3_131 S_131 H locs hP hD hS ls (lv_sub hl [0, 1, 2, 3] rfl) hf
          · replace hf := ie hc15 hf
            refine lv_aload_n hx hb dX8_comes_145 rfl (lv_at hl 0 rfl) ?_
            refine va_get hx hb hts n8_ hown hK hP 0 rfl rfl 0 (Nat.le_of_ble_eq_true rfl) k1_ (fun _ h => h) rfl dX8_comes_146 ?_
            refine lv_bipush (v := (22 : Int32)) hx hb dX8_comes_149 (by decide) ?_
            refine lv_iload hx hb dX8_comes_151 (lv_at hl 4 rfl) ?_
            refine lv_iadd hx hb dX8_comes_153 ?_
            refine lv_aload_n hx hb dX8_comes_154 rfl (lv_at hl 0 rfl) ?_
            refine va_get hx hb hts n8_ hown hK hP 0 rfl rfl 0 (Nat.le_of_ble_eq_true rfl) k1_ (fun _ h => h) rfl dX8_comes_155 ?_
            refine lv_bipush (v := (22 : Int32)) hx hb dX8_comes_158 (by decide) ?_
            refine lv_iload hx hb dX8_comes_160 (lv_at hl 4 rfl) ?_
            refine lv_iadd hx hb dX8_comes_162 ?_
            refine lv_iconst (v := (2 : Int32)) hx hb dX8_comes_163 (by decide) ?_
            refine lv_iadd hx hb dX8_comes_164 ?_
            obtain ⟨hg16, hf⟩ := gd_s hf
            refine va_iald hx hb hK hP 1 0 rfl rfl hg16 dX8_comes_165 ?_
            refine lv_topi (fun v17 ev17 => ?_)
            replace hf := lt_e ev17 hf
            obtain ⟨hg18, hf⟩ := gd_s hf
            refine x_iast hx hb hK hP hD hS 1 0 rfl rfl hg18 dX8_comes_166 (fun Z19 H locs eZ19 hP hD hS => ?_)
            replace hf := lt_e eZ19 hf
            have hP : va_P D vwCl (w_model cI cC b Z19 P Hd Tr Tx told pasts runs typed spot frm reas caus ords ordr) H := hP
            have hD : va_D AA (w_model cI cC b Z19 P Hd Tr Tx told pasts runs typed spot frm reas caus ords ordr) := hD
            obtain ⟨v20, ev20⟩ : ∃ z : Int32, z = y6_131 + (1 : Int32) := ⟨_, rfl⟩
            replace hf := lt_e ev20 hf
            refine lv_iinc (v := v20) (lv' := [(6, .int v20), (0, .ref (b 0)), (1, .int y1_9), (3, .int y3_131), (4, .int y4_9)]) hx hb dX8_comes_167 hl (k := 4) rfl (by rw [ev20]; rfl) (by decide) rfl (fun ls hl => ?_)
            refine lv_goto (tgt := 131) hx hb dX8_comes_170 (by decide) ?_
            exact IH131 y3_131 v20 Z19 H locs hP hD hS ls (lv_sub hl [1, 2, 3, 4, 0] rfl) hf
      have J35 : ∀ (y3_35 : Int32) (z0_35 : Int32) (S_35 : Nat → Int32) (H : Heap) (locs : List Loc), va_P D vwCl (w_model cI cC b S_35 P Hd Tr Tx told pasts runs typed spot frm reas caus ords ordr) H → va_D AA (w_model cI cC b S_35 P Hd Tr Tx told pasts runs typed spot frm reas caus ords ordr) → va_S AA s.heap H locs → ∀ ls : Array Slot, lv_has ls 7 [(0, .ref (b 0)), (1, .int y1_9), (3, .int y3_35), (4, .int y4_9)] → f_X8_comes_J35 (f_X8_comes_L9 y1_9 y4_9 n9) y1_9 y3_35 y4_9 z0_35 S_35 = some R → W p l e rmX8_comes s m args below meth c H locs 0 0 Q (F0 m 35 ls [.int z0_35]) := by
        intro y3_35 z0_35 S_35 H locs hP hD hS ls hl hf
        rw [f_X8_comes_J35] at hf
        refine lv_istore (lv' := [(5, .int z0_35), (0, .ref (b 0)), (1, .int y1_9), (3, .int y3_35), (4, .int y4_9)]) hx hb dX8_comes_35 hl (by decide) rfl (fun ls hl => ?_)
        refine lv_aload_n hx hb dX8_comes_37 rfl (lv_at hl 1 rfl) ?_
        refine va_get hx hb hts n8_ hown hK hP 0 rfl rfl 0 (Nat.le_of_ble_eq_true rfl) k1_ (fun _ h => h) rfl dX8_comes_38 ?_
        refine lv_bipush (v := (35 : Int32)) hx hb dX8_comes_41 (by decide) ?_
        refine lv_aload_n hx hb dX8_comes_43 rfl (lv_at hl 1 rfl) ?_
        refine va_get hx hb hts n8_ hown hK hP 0 rfl rfl 0 (Nat.le_of_ble_eq_true rfl) k1_ (fun _ h => h) rfl dX8_comes_44 ?_
        refine lv_bipush (v := (34 : Int32)) hx hb dX8_comes_47 (by decide) ?_
        refine va_iald hx hb hK hP 1 0 rfl rfl (show ¬ ((34 : Int32) < 0 ∨ 631 ≤ (34 : Int32).toNatClampNeg) by decide) dX8_comes_49 ?_
        refine lv_iadd hx hb dX8_comes_50 ?_
        refine lv_iload hx hb dX8_comes_51 (lv_at hl 0 rfl) ?_
        refine lv_sipush (v := (512 : Int32)) hx hb dX8_comes_53 (by decide) ?_
        refine lv_aload_n hx hb dX8_comes_56 rfl (lv_at hl 1 rfl) ?_
        refine va_get hx hb hts n8_ hown hK hP 0 rfl rfl 0 (Nat.le_of_ble_eq_true rfl) k1_ (fun _ h => h) rfl dX8_comes_57 ?_
        refine lv_bipush (v := (22 : Int32)) hx hb dX8_comes_60 (by decide) ?_
        refine va_iald hx hb hK hP 1 0 rfl rfl (show ¬ ((22 : Int32) < 0 ∨ 631 ≤ (22 : Int32).toNatClampNeg) by decide) dX8_comes_62 ?_
        refine lv_imul hx hb dX8_comes_63 ?_
        refine lv_iadd hx hb dX8_comes_64 ?_
        refine lv_sipush (v := (1024 : Int32)) hx hb dX8_comes_65 (by decide) ?_
        refine lv_iload_n hx hb dX8_comes_68 rfl (lv_at hl 2 rfl) ?_
        refine lv_imul hx hb dX8_comes_69 ?_
        refine lv_iadd hx hb dX8_comes_70 ?_
        refine lv_sipush (v := (2048 : Int32)) hx hb dX8_comes_71 (by decide) ?_
        refine lv_iload hx hb dX8_comes_74 (lv_at hl 4 rfl) ?_
        refine lv_imul hx hb dX8_comes_76 ?_
        refine lv_iadd hx hb dX8_comes_77 ?_
        refine lv_topi (fun v4 ev4 => ?_)
        replace hf := lt_e ev4 hf
        obtain ⟨hg5, hf⟩ := gd_s hf
        refine x_iast hx hb hK hP hD hS 1 0 rfl rfl hg5 dX8_comes_78 (fun Z6 H locs eZ6 hP hD hS => ?_)
        replace hf := lt_e eZ6 hf
        have hP : va_P D vwCl (w_model cI cC b Z6 P Hd Tr Tx told pasts runs typed spot frm reas caus ords ordr) H := hP
        have hD : va_D AA (w_model cI cC b Z6 P Hd Tr Tx told pasts runs typed spot frm reas caus ords ordr) := hD
        refine lv_aload_n hx hb dX8_comes_79 rfl (lv_at hl 1 rfl) ?_
        refine va_get hx hb hts n8_ hown hK hP 0 rfl rfl 0 (Nat.le_of_ble_eq_true rfl) k1_ (fun _ h => h) rfl dX8_comes_80 ?_
        refine lv_bipush (v := (34 : Int32)) hx hb dX8_comes_83 (by decide) ?_
        refine lv_dup2_11 hx hb dX8_comes_85 rfl rfl ?_
        refine va_iald hx hb hK hP 1 0 rfl rfl (show ¬ ((34 : Int32) < 0 ∨ 631 ≤ (34 : Int32).toNatClampNeg) by decide) dX8_comes_86 ?_
        refine lv_iconst (v := (1 : Int32)) hx hb dX8_comes_87 (by decide) ?_
        refine lv_iadd hx hb dX8_comes_88 ?_
        refine lv_topi (fun v7 ev7 => ?_)
        replace hf := lt_e ev7 hf
        refine x_iast hx hb hK hP hD hS 1 0 rfl rfl (show ¬ ((34 : Int32) < 0 ∨ 631 ≤ (34 : Int32).toNatClampNeg) by decide) dX8_comes_89 (fun Z8 H locs eZ8 hP hD hS => ?_)
        replace hf := lt_e eZ8 hf
        have hP : va_P D vwCl (w_model cI cC b Z8 P Hd Tr Tx told pasts runs typed spot frm reas caus ords ordr) H := hP
        have hD : va_D AA (w_model cI cC b Z8 P Hd Tr Tx told pasts runs typed spot frm reas caus ords ordr) := hD
        refine lv_aload_n hx hb dX8_comes_90 rfl (lv_at hl 1 rfl) ?_
        refine va_get hx hb hts n8_ hown hK hP 0 rfl rfl 0 (Nat.le_of_ble_eq_true rfl) k1_ (fun _ h => h) rfl dX8_comes_91 ?_
        refine lv_bipush (v := (23 : Int32)) hx hb dX8_comes_94 (by decide) ?_
        refine lv_dup2_11 hx hb dX8_comes_96 rfl rfl ?_
        refine va_iald hx hb hK hP 1 0 rfl rfl (show ¬ ((23 : Int32) < 0 ∨ 631 ≤ (23 : Int32).toNatClampNeg) by decide) dX8_comes_97 ?_
        refine lv_iload hx hb dX8_comes_98 (lv_at hl 0 rfl) ?_
        refine lv_isub hx hb dX8_comes_100 ?_
        refine lv_topi (fun v9 ev9 => ?_)
        replace hf := lt_e ev9 hf
        refine x_iast hx hb hK hP hD hS 1 0 rfl rfl (show ¬ ((23 : Int32) < 0 ∨ 631 ≤ (23 : Int32).toNatClampNeg) by decide) dX8_comes_101 (fun Z10 H locs eZ10 hP hD hS => ?_)
        replace hf := lt_e eZ10 hf
        have hP : va_P D vwCl (w_model cI cC b Z10 P Hd Tr Tx told pasts runs typed spot frm reas caus ords ordr) H := hP
        have hD : va_D AA (w_model cI cC b Z10 P Hd Tr Tx told pasts runs typed spot frm reas caus ords ordr) := hD
        refine lv_iload_n hx hb dX8_comes_102 rfl (lv_at hl 3 rfl) ?_
        refine lv_iload hx hb dX8_comes_103 (lv_at hl 0 rfl) ?_
        refine lv_isub hx hb dX8_comes_105 ?_
        refine lv_topi (fun v11 ev11 => ?_)
        replace hf := lt_e ev11 hf
        refine lv_istore_n (lv' := [(3, .int v11), (5, .int z0_35), (0, .ref (b 0)), (1, .int y1_9), (4, .int y4_9)]) hx hb dX8_comes_106 rfl hl (by decide) rfl (fun ls hl => ?_)
        refine lv_aload_n hx hb dX8_comes_107 rfl (lv_at hl 2 rfl) ?_
        refine va_get hx hb hts n8_ hown hK hP 0 rfl rfl 0 (Nat.le_of_ble_eq_true rfl) k1_ (fun _ h => h) rfl dX8_comes_108 ?_
        refine lv_bipush (v := (23 : Int32)) hx hb dX8_comes_111 (by decide) ?_
        refine va_iald hx hb hK hP 1 0 rfl rfl (show ¬ ((23 : Int32) < 0 ∨ 631 ≤ (23 : Int32).toNatClampNeg) by decide) dX8_comes_113 ?_
        refine lv_if_ne (tgt := 173) hx hb dX8_comes_114 (by decide) (fun hc12 => ?_) (fun hc12 => ?_)
        · replace hf := ie hc12 hf
          exact J173 v11 Z10 H locs hP hD hS ls (lv_sub hl [2, 3, 0, 4] rfl) hf
        · replace hf := it hc12 hf
          refine lv_aload_n hx hb dX8_comes_117 rfl (lv_at hl 2 rfl) ?_
          refine va_get hx hb hts n8_ hown hK hP 0 rfl rfl 0 (Nat.le_of_ble_eq_true rfl) k1_ (fun _ h => h) rfl dX8_comes_118 ?_
          refine lv_bipush (v := (21 : Int32)) hx hb dX8_comes_121 (by decide) ?_
          refine lv_dup2_11 hx hb dX8_comes_123 rfl rfl ?_
          refine va_iald hx hb hK hP 1 0 rfl rfl (show ¬ ((21 : Int32) < 0 ∨ 631 ≤ (21 : Int32).toNatClampNeg) by decide) dX8_comes_124 ?_
          refine lv_iconst (v := (1 : Int32)) hx hb dX8_comes_125 (by decide) ?_
          refine lv_isub hx hb dX8_comes_126 ?_
          refine lv_topi (fun v13 ev13 => ?_)
          replace hf := lt_e ev13 hf
          refine x_iast hx hb hK hP hD hS 1 0 rfl rfl (show ¬ ((21 : Int32) < 0 ∨ 631 ≤ (21 : Int32).toNatClampNeg) by decide) dX8_comes_127 (fun Z14 H locs eZ14 hP hD hS => ?_)
          replace hf := lt_e eZ14 hf
          have hP : va_P D vwCl (w_model cI cC b Z14 P Hd Tr Tx told pasts runs typed spot frm reas caus ords ordr) H := hP
          have hD : va_D AA (w_model cI cC b Z14 P Hd Tr Tx told pasts runs typed spot frm reas caus ords ordr) := hD
          refine lv_iconst (v := (0 : Int32)) hx hb dX8_comes_128 (by decide) ?_
          refine lv_istore (lv' := [(6, .int (0 : Int32)), (3, .int v11), (5, .int z0_35), (0, .ref (b 0)), (1, .int y1_9), (4, .int y4_9)]) hx hb dX8_comes_129 hl (by decide) rfl (fun ls hl => ?_)
          exact L131 FU v11 (0 : Int32) Z14 H locs hP hD hS ls (lv_sub hl [3, 4, 1, 5, 0] rfl) hf
      rw [f_X8_comes_L9] at hf
      refine lv_iload_n hx hb dX8_comes_9 rfl (lv_at hl 2 rfl) ?_
      refine lv_if_le (tgt := 176) hx hb dX8_comes_10 (by decide) (fun hc2 => ?_) (fun hc2 => ?_)
      · replace hf := it hc2 hf
        obtain rfl := Option.some.inj hf
        exact ret 176 ls H locs dX8_comes_176 hP hS
      · replace hf := ie hc2 hf
        refine lv_aload_n hx hb dX8_comes_13 rfl (lv_at hl 0 rfl) ?_
        refine va_get hx hb hts n8_ hown hK hP 0 rfl rfl 0 (Nat.le_of_ble_eq_true rfl) k1_ (fun _ h => h) rfl dX8_comes_14 ?_
        refine lv_bipush (v := (23 : Int32)) hx hb dX8_comes_17 (by decide) ?_
        refine va_iald hx hb hK hP 1 0 rfl rfl (show ¬ ((23 : Int32) < 0 ∨ 631 ≤ (23 : Int32).toNatClampNeg) by decide) dX8_comes_19 ?_
        refine lv_iload_n hx hb dX8_comes_20 rfl (lv_at hl 2 rfl) ?_
        refine lv_icmp_ge (tgt := 34) hx hb dX8_comes_21 (by decide) (fun hc3 => ?_) (fun hc3 => ?_)
        · replace hf := it hc3 hf
          refine lv_iload_n hx hb dX8_comes_34 rfl (lv_at hl 2 rfl) ?_
          exact J35 y3_9 y3_9 S_9 H locs hP hD hS ls (lv_sub hl [0, 1, 2, 3] rfl) hf
        · replace hf := ie hc3 hf
          refine lv_aload_n hx hb dX8_comes_24 rfl (lv_at hl 0 rfl) ?_
          refine va_get hx hb hts n8_ hown hK hP 0 rfl rfl 0 (Nat.le_of_ble_eq_true rfl) k1_ (fun _ h => h) rfl dX8_comes_25 ?_
          refine lv_bipush (v := (23 : Int32)) hx hb dX8_comes_28 (by decide) ?_
          refine va_iald hx hb hK hP 1 0 rfl rfl (show ¬ ((23 : Int32) < 0 ∨ 631 ≤ (23 : Int32).toNatClampNeg) by decide) dX8_comes_30 ?_
          refine lv_goto (tgt := 35) hx hb dX8_comes_31 (by decide) ?_
          exact J35 y3_9 (S_9 (23 : Int32).toNatClampNeg) S_9 H locs hP hD hS ls (lv_sub hl [0, 1, 2, 3] rfl) hf
  rw [f_X8_comes] at hf
  obtain ⟨H, hH⟩ : ∃ z : Heap, z = s.heap := ⟨_, rfl⟩
  obtain ⟨locs, hL⟩ : ∃ z : List Loc, z = [] := ⟨_, rfl⟩
  replace hP := hH ▸ hP
  replace hS : va_S AA s.heap H locs := by rw [hH, hL]; exact hS
  suffices hgoal : W p l e rmX8_comes s m args below meth c H locs 0 0 Q (F0 m 0 ls []) by rw [hH, hL] at hgoal; exact hgoal
  clear hH hL
  refine lv_iload_n hx hb dX8_comes_0 rfl (lv_at hl 2 rfl) ?_
  refine lv_istore_n (lv' := [(3, .int x2), (0, .ref (b 0)), (1, .int x1), (2, .int x2)]) hx hb dX8_comes_1 rfl hl (by decide) rfl (fun ls hl => ?_)
  refine lv_aload_n hx hb dX8_comes_2 rfl (lv_at hl 1 rfl) ?_
  refine lv_iload_n hx hb dX8_comes_3 rfl (lv_at hl 2 rfl) ?_
  obtain ⟨q1, hq1, hf⟩ := ob hf
  refine cl_RV (As := [.int x1]) (rest := []) hF hP hD (c_X8_gap b x1 S P Hd Tr Tx told pasts runs typed spot frm reas caus ords ordr q1 hq1) (cwV 1 hts gX8_comes_X8_gap rfl rfl rfl (by decide +kernel) ⟨(Nat.le_of_ble_eq_true rfl), (Nat.le_of_ble_eq_true rfl)⟩) [0, 1, 2, 3, 4, 5, 6] rfl (by decide +kernel) (va_recv hK hP (ci := 8) (q0 := 0) rfl rfl) rfl rfl hl.1 (Nat.le_of_ble_eq_true rfl) dX8_comes_4 ⟨Nat.zero_le _, Nat.zero_le _⟩ ?_
  refine lv_istore (lv' := [(4, .int q1), (3, .int x2), (0, .ref (b 0)), (1, .int x1), (2, .int x2)]) hx hb dX8_comes_7 hl (by decide) rfl (fun ls hl => ?_)
  exact L9 FU x1 q1 x2 S H locs hP hD hS ls (lv_sub hl [2, 3, 1, 0] rfl) hf
abbrev rmX8_overflows : Room := { frames := 3, cells := 0, slots := 0, locals := 44 }
set_option maxHeartbeats 4000000 in
set_option maxRecDepth 100000 in
theorem c_X8_overflows (b : Nat → Nat) (S : Nat → Int32) (P : Nat → Int32) (Hd : Nat → Int32) (Tr : Nat → Int32) (Tx : Nat → Int32) (told : Nat → Int32) (pasts : Int32) (runs : Int32) (typed : Int32) (spot : Int32) (frm : Int32) (reas : Int32) (caus : Int32) (ords : Int32) (ordr : Int32) (R : (Nat → Int32)) (hf : f_X8_overflows S = some R) : WrV l yX8_overflows wsX8_overflows rmX8_overflows D cI cC (w_model cI cC b S P Hd Tr Tx told pasts runs typed spot frm reas caus ords ordr) (w_model cI cC b R P Hd Tr Tx told pasts runs typed spot frm reas caus ords ordr) [.ref (b 0)] := by
  refine en_V (cc := cX8_overflows) (n := 5) (by decide) rfl (Nat.le_of_ble_eq_true rfl) ?_
  intro p e s m args below meth c Q AA ls hx hb hml hown hts hK hN hP hD hS hl ret
  have hown : s.vm.findClass RX8 = some m.cls := hown
  have hF : FX p m c cX8_overflows 5 s args wsX8_overflows RX8 D cI cC := ⟨⟨hx, hb, hml, hown, hts⟩, hK, hN⟩
  have hl : lv_has ls 5 [(0, .ref (b 0))] := hl
  have k1_ := hts (.fieldLink RX8 7 "DriftGrindersModel" "s" "[I") (List.mem_of_getElem? (i := 1) rfl)
  have n8_ : ∀ w ∈ wsX80, w ∈ wsX8_overflows := fun _ h => List.mem_cons_of_mem _ (List.mem_append_right _ h)
  have L17 : ∀ n17 : Nat, ∀ (y1_17 : Int32) (S_17 : Nat → Int32) (H : Heap) (locs : List Loc), va_P D vwCl (w_model cI cC b S_17 P Hd Tr Tx told pasts runs typed spot frm reas caus ords ordr) H → va_D AA (w_model cI cC b S_17 P Hd Tr Tx told pasts runs typed spot frm reas caus ords ordr) → va_S AA s.heap H locs → ∀ ls : Array Slot, lv_has ls 5 [(0, .ref (b 0)), (1, .int y1_17)] → f_X8_overflows_L17 n17 y1_17 S_17 = some R → W p l e rmX8_overflows s m args below meth c H locs 0 0 Q (F0 m 17 ls []) := by
    intro n17
    induction n17 with
    | zero => intro y1_17 S_17 H locs hP hD hS ls hl hf; rw [f_X8_overflows_L17] at hf; cases hf
    | succ n17 IH17 =>
      intro y1_17 S_17 H locs hP hD hS ls hl hf
      have J165 : ∀ (y1_165 : Int32) (S_165 : Nat → Int32) (H : Heap) (locs : List Loc), va_P D vwCl (w_model cI cC b S_165 P Hd Tr Tx told pasts runs typed spot frm reas caus ords ordr) H → va_D AA (w_model cI cC b S_165 P Hd Tr Tx told pasts runs typed spot frm reas caus ords ordr) → va_S AA s.heap H locs → ∀ ls : Array Slot, lv_has ls 5 [(0, .ref (b 0)), (1, .int y1_165)] → f_X8_overflows_J165 (f_X8_overflows_L17 n17) y1_165 S_165 = some R → W p l e rmX8_overflows s m args below meth c H locs 0 0 Q (F0 m 165 ls []) := by
        intro y1_165 S_165 H locs hP hD hS ls hl hf
        rw [f_X8_overflows_J165] at hf
        refine lv_goto (tgt := 17) hx hb dX8_overflows_165 (by decide) ?_
        exact IH17 y1_165 S_165 H locs hP hD hS ls (lv_sub hl [0, 1] rfl) hf
      have L125 : ∀ n125 : Nat, ∀ (y1_125 : Int32) (y4_125 : Int32) (S_125 : Nat → Int32) (H : Heap) (locs : List Loc), va_P D vwCl (w_model cI cC b S_125 P Hd Tr Tx told pasts runs typed spot frm reas caus ords ordr) H → va_D AA (w_model cI cC b S_125 P Hd Tr Tx told pasts runs typed spot frm reas caus ords ordr) → va_S AA s.heap H locs → ∀ ls : Array Slot, lv_has ls 5 [(0, .ref (b 0)), (1, .int y1_125), (4, .int y4_125)] → f_X8_overflows_L125 (f_X8_overflows_L17 n17) y1_125 n125 y4_125 S_125 = some R → W p l e rmX8_overflows s m args below meth c H locs 0 0 Q (F0 m 125 ls []) := by
        intro n125
        induction n125 with
        | zero => intro y1_125 y4_125 S_125 H locs hP hD hS ls hl hf; rw [f_X8_overflows_L125] at hf; cases hf
        | succ n125 IH125 =>
          intro y1_125 y4_125 S_125 H locs hP hD hS ls hl hf
          rw [f_X8_overflows_L125] at hf
          refine lv_iload hx hb dX8_overflows_125 (lv_at hl 2 rfl) ?_
          refine lv_aload_n hx hb dX8_overflows_127 rfl (lv_at hl 0 rfl) ?_
          refine va_get hx hb hts n8_ hown hK hP 0 rfl rfl 0 (Nat.le_of_ble_eq_true rfl) k1_ (fun _ h => h) rfl dX8_overflows_128 ?_
          refine lv_bipush (v := (34 : Int32)) hx hb dX8_overflows_131 (by decide) ?_
          refine va_iald hx hb hK hP 1 0 rfl rfl (show ¬ ((34 : Int32) < 0 ∨ 631 ≤ (34 : Int32).toNatClampNeg) by decide) dX8_overflows_133 ?_
          refine lv_icmp_ge (tgt := 165) hx hb dX8_overflows_134 (by decide) (fun hc21 => ?_) (fun hc21 => ?_)
          · replace hf := it hc21 hf
            exact J165 y1_125 S_125 H locs hP hD hS ls (lv_sub hl [0, 1] rfl) hf
          · replace hf := ie hc21 hf
            refine lv_aload_n hx hb dX8_overflows_137 rfl (lv_at hl 0 rfl) ?_
            refine va_get hx hb hts n8_ hown hK hP 0 rfl rfl 0 (Nat.le_of_ble_eq_true rfl) k1_ (fun _ h => h) rfl dX8_overflows_138 ?_
            refine lv_bipush (v := (35 : Int32)) hx hb dX8_overflows_141 (by decide) ?_
            refine lv_iload hx hb dX8_overflows_143 (lv_at hl 2 rfl) ?_
            refine lv_iadd hx hb dX8_overflows_145 ?_
            refine lv_aload_n hx hb dX8_overflows_146 rfl (lv_at hl 0 rfl) ?_
            refine va_get hx hb hts n8_ hown hK hP 0 rfl rfl 0 (Nat.le_of_ble_eq_true rfl) k1_ (fun _ h => h) rfl dX8_overflows_147 ?_
            refine lv_bipush (v := (35 : Int32)) hx hb dX8_overflows_150 (by decide) ?_
            refine lv_iload hx hb dX8_overflows_152 (lv_at hl 2 rfl) ?_
            refine lv_iadd hx hb dX8_overflows_154 ?_
            refine lv_iconst (v := (1 : Int32)) hx hb dX8_overflows_155 (by decide) ?_
            refine lv_iadd hx hb dX8_overflows_156 ?_
            obtain ⟨hg22, hf⟩ := gd_s hf
            refine va_iald hx hb hK hP 1 0 rfl rfl hg22 dX8_overflows_157 ?_
            refine lv_topi (fun v23 ev23 => ?_)
            replace hf := lt_e ev23 hf
            obtain ⟨hg24, hf⟩ := gd_s hf
            refine x_iast hx hb hK hP hD hS 1 0 rfl rfl hg24 dX8_overflows_158 (fun Z25 H locs eZ25 hP hD hS => ?_)
            replace hf := lt_e eZ25 hf
            have hP : va_P D vwCl (w_model cI cC b Z25 P Hd Tr Tx told pasts runs typed spot frm reas caus ords ordr) H := hP
            have hD : va_D AA (w_model cI cC b Z25 P Hd Tr Tx told pasts runs typed spot frm reas caus ords ordr) := hD
            obtain ⟨v26, ev26⟩ : ∃ z : Int32, z = y4_125 + (1 : Int32) := ⟨_, rfl⟩
            replace hf := lt_e ev26 hf
            refine lv_iinc (v := v26) (lv' := [(4, .int v26), (0, .ref (b 0)), (1, .int y1_125)]) hx hb dX8_overflows_159 hl (k := 2) rfl (by rw [ev26]; rfl) (by decide) rfl (fun ls hl => ?_)
            refine lv_goto (tgt := 125) hx hb dX8_overflows_162 (by decide) ?_
            exact IH125 y1_125 v26 Z25 H locs hP hD hS ls (lv_sub hl [1, 2, 0] rfl) hf
      have J45 : ∀ (y1_45 : Int32) (y2_45 : Int32) (z0_45 : Int32) (S_45 : Nat → Int32) (H : Heap) (locs : List Loc), va_P D vwCl (w_model cI cC b S_45 P Hd Tr Tx told pasts runs typed spot frm reas caus ords ordr) H → va_D AA (w_model cI cC b S_45 P Hd Tr Tx told pasts runs typed spot frm reas caus ords ordr) → va_S AA s.heap H locs → ∀ ls : Array Slot, lv_has ls 5 [(0, .ref (b 0)), (1, .int y1_45), (2, .int y2_45)] → f_X8_overflows_J45 (f_X8_overflows_L17 n17) y1_45 y2_45 z0_45 S_45 = some R → W p l e rmX8_overflows s m args below meth c H locs 0 0 Q (F0 m 45 ls [.int z0_45]) := by
        intro y1_45 y2_45 z0_45 S_45 H locs hP hD hS ls hl hf
        rw [f_X8_overflows_J45] at hf
        refine lv_istore_n (lv' := [(3, .int z0_45), (0, .ref (b 0)), (1, .int y1_45), (2, .int y2_45)]) hx hb dX8_overflows_45 rfl hl (by decide) rfl (fun ls hl => ?_)
        refine lv_aload_n hx hb dX8_overflows_46 rfl (lv_at hl 1 rfl) ?_
        refine va_get hx hb hts n8_ hown hK hP 0 rfl rfl 0 (Nat.le_of_ble_eq_true rfl) k1_ (fun _ h => h) rfl dX8_overflows_47 ?_
        refine lv_sipush (v := (146 : Int32)) hx hb dX8_overflows_50 (by decide) ?_
        refine lv_aload_n hx hb dX8_overflows_53 rfl (lv_at hl 1 rfl) ?_
        refine va_get hx hb hts n8_ hown hK hP 0 rfl rfl 0 (Nat.le_of_ble_eq_true rfl) k1_ (fun _ h => h) rfl dX8_overflows_54 ?_
        refine lv_sipush (v := (145 : Int32)) hx hb dX8_overflows_57 (by decide) ?_
        refine va_iald hx hb hK hP 1 0 rfl rfl (show ¬ ((145 : Int32) < 0 ∨ 631 ≤ (145 : Int32).toNatClampNeg) by decide) dX8_overflows_60 ?_
        refine lv_iadd hx hb dX8_overflows_61 ?_
        refine lv_iload_n hx hb dX8_overflows_62 rfl (lv_at hl 3 rfl) ?_
        refine lv_iload_n hx hb dX8_overflows_63 rfl (lv_at hl 3 rfl) ?_
        obtain ⟨q8, hq8, hf⟩ := ob hf
        refine cl_RS (As := [.int y2_45]) (rest := [.int y2_45, .int ((146 : Int32) + (S_45 (145 : Int32).toNatClampNeg)), .ref (b 1)]) hF hP hD (c_X8_amountOf y2_45 q8 hq8) (va_cwS 1 hts gX8_overflows_X8_amountOf rfl rfl rfl (by decide +kernel) ⟨(Nat.le_of_ble_eq_true rfl), (Nat.le_of_ble_eq_true rfl)⟩) [] rfl (by decide +kernel) rfl rfl hl.1 (Nat.le_of_ble_eq_true rfl) dX8_overflows_64 ⟨Nat.zero_le _, Nat.zero_le _⟩ ?_
        refine lv_isub hx hb dX8_overflows_67 ?_
        refine lv_iload_n hx hb dX8_overflows_68 rfl (lv_at hl 0 rfl) ?_
        refine lv_iadd hx hb dX8_overflows_69 ?_
        refine lv_topi (fun v9 ev9 => ?_)
        replace hf := lt_e ev9 hf
        obtain ⟨hg10, hf⟩ := gd_s hf
        refine x_iast hx hb hK hP hD hS 1 0 rfl rfl hg10 dX8_overflows_70 (fun Z11 H locs eZ11 hP hD hS => ?_)
        replace hf := lt_e eZ11 hf
        have hP : va_P D vwCl (w_model cI cC b Z11 P Hd Tr Tx told pasts runs typed spot frm reas caus ords ordr) H := hP
        have hD : va_D AA (w_model cI cC b Z11 P Hd Tr Tx told pasts runs typed spot frm reas caus ords ordr) := hD
        refine lv_aload_n hx hb dX8_overflows_71 rfl (lv_at hl 1 rfl) ?_
        refine va_get hx hb hts n8_ hown hK hP 0 rfl rfl 0 (Nat.le_of_ble_eq_true rfl) k1_ (fun _ h => h) rfl dX8_overflows_72 ?_
        refine lv_sipush (v := (145 : Int32)) hx hb dX8_overflows_75 (by decide) ?_
        refine lv_dup2_11 hx hb dX8_overflows_78 rfl rfl ?_
        refine va_iald hx hb hK hP 1 0 rfl rfl (show ¬ ((145 : Int32) < 0 ∨ 631 ≤ (145 : Int32).toNatClampNeg) by decide) dX8_overflows_79 ?_
        refine lv_iconst (v := (1 : Int32)) hx hb dX8_overflows_80 (by decide) ?_
        refine lv_iadd hx hb dX8_overflows_81 ?_
        refine lv_topi (fun v12 ev12 => ?_)
        replace hf := lt_e ev12 hf
        refine x_iast hx hb hK hP hD hS 1 0 rfl rfl (show ¬ ((145 : Int32) < 0 ∨ 631 ≤ (145 : Int32).toNatClampNeg) by decide) dX8_overflows_82 (fun Z13 H locs eZ13 hP hD hS => ?_)
        replace hf := lt_e eZ13 hf
        have hP : va_P D vwCl (w_model cI cC b Z13 P Hd Tr Tx told pasts runs typed spot frm reas caus ords ordr) H := hP
        have hD : va_D AA (w_model cI cC b Z13 P Hd Tr Tx told pasts runs typed spot frm reas caus ords ordr) := hD
        refine lv_aload_n hx hb dX8_overflows_83 rfl (lv_at hl 1 rfl) ?_
        refine va_get hx hb hts n8_ hown hK hP 0 rfl rfl 0 (Nat.le_of_ble_eq_true rfl) k1_ (fun _ h => h) rfl dX8_overflows_84 ?_
        refine lv_bipush (v := (35 : Int32)) hx hb dX8_overflows_87 (by decide) ?_
        refine lv_dup2_11 hx hb dX8_overflows_89 rfl rfl ?_
        refine va_iald hx hb hK hP 1 0 rfl rfl (show ¬ ((35 : Int32) < 0 ∨ 631 ≤ (35 : Int32).toNatClampNeg) by decide) dX8_overflows_90 ?_
        refine lv_iload_n hx hb dX8_overflows_91 rfl (lv_at hl 0 rfl) ?_
        refine lv_isub hx hb dX8_overflows_92 ?_
        refine lv_topi (fun v14 ev14 => ?_)
        replace hf := lt_e ev14 hf
        refine x_iast hx hb hK hP hD hS 1 0 rfl rfl (show ¬ ((35 : Int32) < 0 ∨ 631 ≤ (35 : Int32).toNatClampNeg) by decide) dX8_overflows_93 (fun Z15 H locs eZ15 hP hD hS => ?_)
        replace hf := lt_e eZ15 hf
        have hP : va_P D vwCl (w_model cI cC b Z15 P Hd Tr Tx told pasts runs typed spot frm reas caus ords ordr) H := hP
        have hD : va_D AA (w_model cI cC b Z15 P Hd Tr Tx told pasts runs typed spot frm reas caus ords ordr) := hD
        refine lv_iload_n hx hb dX8_overflows_94 rfl (lv_at hl 2 rfl) ?_
        refine lv_iload_n hx hb dX8_overflows_95 rfl (lv_at hl 0 rfl) ?_
        refine lv_isub hx hb dX8_overflows_96 ?_
        refine lv_topi (fun v16 ev16 => ?_)
        replace hf := lt_e ev16 hf
        refine lv_istore_n (lv' := [(1, .int v16), (3, .int z0_45), (0, .ref (b 0)), (2, .int y2_45)]) hx hb dX8_overflows_97 rfl hl (by decide) rfl (fun ls hl => ?_)
        refine lv_aload_n hx hb dX8_overflows_98 rfl (lv_at hl 2 rfl) ?_
        refine va_get hx hb hts n8_ hown hK hP 0 rfl rfl 0 (Nat.le_of_ble_eq_true rfl) k1_ (fun _ h => h) rfl dX8_overflows_99 ?_
        refine lv_bipush (v := (35 : Int32)) hx hb dX8_overflows_102 (by decide) ?_
        refine va_iald hx hb hK hP 1 0 rfl rfl (show ¬ ((35 : Int32) < 0 ∨ 631 ≤ (35 : Int32).toNatClampNeg) by decide) dX8_overflows_104 ?_
        obtain ⟨q17, hq17, hf⟩ := ob hf
        refine cl_RS (As := [.int (Z15 (35 : Int32).toNatClampNeg)]) (rest := []) hF hP hD (c_X8_amountOf (Z15 (35 : Int32).toNatClampNeg) q17 hq17) (va_cwS 1 hts gX8_overflows_X8_amountOf rfl rfl rfl (by decide +kernel) ⟨(Nat.le_of_ble_eq_true rfl), (Nat.le_of_ble_eq_true rfl)⟩) [] rfl (by decide +kernel) rfl rfl hl.1 (Nat.le_of_ble_eq_true rfl) dX8_overflows_105 ⟨Nat.zero_le _, Nat.zero_le _⟩ ?_
        refine lv_if_ne (tgt := 165) hx hb dX8_overflows_108 (by decide) (fun hc18 => ?_) (fun hc18 => ?_)
        · replace hf := ie hc18 hf
          exact J165 v16 Z15 H locs hP hD hS ls (lv_sub hl [2, 0] rfl) hf
        · replace hf := it hc18 hf
          refine lv_aload_n hx hb dX8_overflows_111 rfl (lv_at hl 2 rfl) ?_
          refine va_get hx hb hts n8_ hown hK hP 0 rfl rfl 0 (Nat.le_of_ble_eq_true rfl) k1_ (fun _ h => h) rfl dX8_overflows_112 ?_
          refine lv_bipush (v := (34 : Int32)) hx hb dX8_overflows_115 (by decide) ?_
          refine lv_dup2_11 hx hb dX8_overflows_117 rfl rfl ?_
          refine va_iald hx hb hK hP 1 0 rfl rfl (show ¬ ((34 : Int32) < 0 ∨ 631 ≤ (34 : Int32).toNatClampNeg) by decide) dX8_overflows_118 ?_
          refine lv_iconst (v := (1 : Int32)) hx hb dX8_overflows_119 (by decide) ?_
          refine lv_isub hx hb dX8_overflows_120 ?_
          refine lv_topi (fun v19 ev19 => ?_)
          replace hf := lt_e ev19 hf
          refine x_iast hx hb hK hP hD hS 1 0 rfl rfl (show ¬ ((34 : Int32) < 0 ∨ 631 ≤ (34 : Int32).toNatClampNeg) by decide) dX8_overflows_121 (fun Z20 H locs eZ20 hP hD hS => ?_)
          replace hf := lt_e eZ20 hf
          have hP : va_P D vwCl (w_model cI cC b Z20 P Hd Tr Tx told pasts runs typed spot frm reas caus ords ordr) H := hP
          have hD : va_D AA (w_model cI cC b Z20 P Hd Tr Tx told pasts runs typed spot frm reas caus ords ordr) := hD
          refine lv_iconst (v := (0 : Int32)) hx hb dX8_overflows_122 (by decide) ?_
          refine lv_istore (lv' := [(4, .int (0 : Int32)), (1, .int v16), (3, .int z0_45), (0, .ref (b 0)), (2, .int y2_45)]) hx hb dX8_overflows_123 hl (by decide) rfl (fun ls hl => ?_)
          exact L125 FU v16 (0 : Int32) Z20 H locs hP hD hS ls (lv_sub hl [3, 1, 0] rfl) hf
      rw [f_X8_overflows_L17] at hf
      refine lv_iload_n hx hb dX8_overflows_17 rfl (lv_at hl 1 rfl) ?_
      refine lv_if_le (tgt := 168) hx hb dX8_overflows_18 (by decide) (fun hc3 => ?_) (fun hc3 => ?_)
      · replace hf := it hc3 hf
        obtain rfl := Option.some.inj hf
        exact ret 168 ls H locs dX8_overflows_168 hP hS
      · replace hf := ie hc3 hf
        refine lv_aload_n hx hb dX8_overflows_21 rfl (lv_at hl 0 rfl) ?_
        refine va_get hx hb hts n8_ hown hK hP 0 rfl rfl 0 (Nat.le_of_ble_eq_true rfl) k1_ (fun _ h => h) rfl dX8_overflows_22 ?_
        refine lv_bipush (v := (35 : Int32)) hx hb dX8_overflows_25 (by decide) ?_
        refine va_iald hx hb hK hP 1 0 rfl rfl (show ¬ ((35 : Int32) < 0 ∨ 631 ≤ (35 : Int32).toNatClampNeg) by decide) dX8_overflows_27 ?_
        refine lv_topi (fun v4 ev4 => ?_)
        replace hf := lt_e ev4 hf
        refine lv_istore_n (lv' := [(2, .int v4), (0, .ref (b 0)), (1, .int y1_17)]) hx hb dX8_overflows_28 rfl hl (by decide) rfl (fun ls hl => ?_)
        refine lv_iload_n hx hb dX8_overflows_29 rfl (lv_at hl 0 rfl) ?_
        obtain ⟨q5, hq5, hf⟩ := ob hf
        refine cl_RS (As := [.int v4]) (rest := []) hF hP hD (c_X8_amountOf v4 q5 hq5) (va_cwS 1 hts gX8_overflows_X8_amountOf rfl rfl rfl (by decide +kernel) ⟨(Nat.le_of_ble_eq_true rfl), (Nat.le_of_ble_eq_true rfl)⟩) [] rfl (by decide +kernel) rfl rfl hl.1 (Nat.le_of_ble_eq_true rfl) dX8_overflows_30 ⟨Nat.zero_le _, Nat.zero_le _⟩ ?_
        refine lv_iload_n hx hb dX8_overflows_33 rfl (lv_at hl 2 rfl) ?_
        refine lv_icmp_ge (tgt := 44) hx hb dX8_overflows_34 (by decide) (fun hc6 => ?_) (fun hc6 => ?_)
        · replace hf := it hc6 hf
          refine lv_iload_n hx hb dX8_overflows_44 rfl (lv_at hl 2 rfl) ?_
          exact J45 y1_17 v4 y1_17 S_17 H locs hP hD hS ls (lv_sub hl [1, 2, 0] rfl) hf
        · replace hf := ie hc6 hf
          refine lv_iload_n hx hb dX8_overflows_37 rfl (lv_at hl 0 rfl) ?_
          obtain ⟨q7, hq7, hf⟩ := ob hf
          refine cl_RS (As := [.int v4]) (rest := []) hF hP hD (c_X8_amountOf v4 q7 hq7) (va_cwS 1 hts gX8_overflows_X8_amountOf rfl rfl rfl (by decide +kernel) ⟨(Nat.le_of_ble_eq_true rfl), (Nat.le_of_ble_eq_true rfl)⟩) [] rfl (by decide +kernel) rfl rfl hl.1 (Nat.le_of_ble_eq_true rfl) dX8_overflows_38 ⟨Nat.zero_le _, Nat.zero_le _⟩ ?_
          refine lv_goto (tgt := 45) hx hb dX8_overflows_41 (by decide) ?_
          exact J45 y1_17 v4 q7 S_17 H locs hP hD hS ls (lv_sub hl [1, 2, 0] rfl) hf
  rw [f_X8_overflows] at hf
  obtain ⟨H, hH⟩ : ∃ z : Heap, z = s.heap := ⟨_, rfl⟩
  obtain ⟨locs, hL⟩ : ∃ z : List Loc, z = [] := ⟨_, rfl⟩
  replace hP := hH ▸ hP
  replace hS : va_S AA s.heap H locs := by rw [hH, hL]; exact hS
  suffices hgoal : W p l e rmX8_overflows s m args below meth c H locs 0 0 Q (F0 m 0 ls []) by rw [hH, hL] at hgoal; exact hgoal
  clear hH hL
  refine lv_aload_n hx hb dX8_overflows_0 rfl (lv_at hl 0 rfl) ?_
  refine lv_bipush (v := (34 : Int32)) hx hb dX8_overflows_1 (by decide) ?_
  refine lv_bipush (v := (35 : Int32)) hx hb dX8_overflows_3 (by decide) ?_
  obtain ⟨q1, hq1, hf⟩ := ob hf
  refine cl_RV (As := [.int (34 : Int32), .int (35 : Int32)]) (rest := []) hF hP hD (c_X8_amounts b (34 : Int32) (35 : Int32) S P Hd Tr Tx told pasts runs typed spot frm reas caus ords ordr q1 hq1) (cwV 2 hts gX8_overflows_X8_amounts rfl rfl rfl (by decide +kernel) ⟨(Nat.le_of_ble_eq_true rfl), (Nat.le_of_ble_eq_true rfl)⟩) [0, 1, 2, 3, 4, 5, 6] rfl (by decide +kernel) (va_recv hK hP (ci := 8) (q0 := 0) rfl rfl) rfl rfl hl.1 (Nat.le_of_ble_eq_true rfl) dX8_overflows_5 ⟨Nat.zero_le _, Nat.zero_le _⟩ ?_
  refine lv_aload_n hx hb dX8_overflows_8 rfl (lv_at hl 0 rfl) ?_
  refine va_get hx hb hts n8_ hown hK hP 0 rfl rfl 0 (Nat.le_of_ble_eq_true rfl) k1_ (fun _ h => h) rfl dX8_overflows_9 ?_
  refine lv_bipush (v := (9 : Int32)) hx hb dX8_overflows_12 (by decide) ?_
  refine va_iald hx hb hK hP 1 0 rfl rfl (show ¬ ((9 : Int32) < 0 ∨ 631 ≤ (9 : Int32).toNatClampNeg) by decide) dX8_overflows_14 ?_
  refine lv_isub hx hb dX8_overflows_15 ?_
  refine lv_topi (fun v2 ev2 => ?_)
  replace hf := lt_e ev2 hf
  refine lv_istore_n (lv' := [(1, .int v2), (0, .ref (b 0))]) hx hb dX8_overflows_16 rfl hl (by decide) rfl (fun ls hl => ?_)
  exact L17 FU v2 S H locs hP hD hS ls (lv_sub hl [1, 0] rfl) hf
abbrev rmX8_couldGrind : Room := { frames := 3, cells := 0, slots := 0, locals := 44 }
set_option maxHeartbeats 4000000 in
set_option maxRecDepth 100000 in
theorem c_X8_couldGrind (b : Nat → Nat) (x1 : Int32) (x2 : Int32) (S : Nat → Int32) (P : Nat → Int32) (Hd : Nat → Int32) (Tr : Nat → Int32) (Tx : Nat → Int32) (told : Nat → Int32) (pasts : Int32) (runs : Int32) (typed : Int32) (spot : Int32) (frm : Int32) (reas : Int32) (caus : Int32) (ords : Int32) (ordr : Int32) (R : Int32) (hf : f_X8_couldGrind x1 x2 S = some R) : RdI l yX8_couldGrind wsX8_couldGrind rmX8_couldGrind D cI cC (w_model cI cC b S P Hd Tr Tx told pasts runs typed spot frm reas caus ords ordr) [.ref (b 0), .int x1, .int x2] R := by
  refine en_R (cc := cX8_couldGrind) (n := 4) (by decide) rfl (Nat.le_of_ble_eq_true rfl) ?_
  intro p e s m args below meth c Q AA ls hx hb hml hown hts hK hN hP hD hl ret
  have hown : s.vm.findClass RX8 = some m.cls := hown
  have hF : FX p m c cX8_couldGrind 4 s args wsX8_couldGrind RX8 D cI cC := ⟨⟨hx, hb, hml, hown, hts⟩, hK, hN⟩
  have hl : lv_has ls 4 [(0, .ref (b 0)), (1, .int x1), (2, .int x2)] := hl
  have k1_ := hts (.constant RX8 64 (-1000001)) (List.mem_of_getElem? (i := 1) rfl)
  have k2_ := hts (.constant RX8 79 (-1000002)) (List.mem_of_getElem? (i := 2) rfl)
  have k3_ := hts (.fieldLink RX8 7 "DriftGrindersModel" "s" "[I") (List.mem_of_getElem? (i := 3) rfl)
  have k4_ := hts (.constant RX8 69 (-1000003)) (List.mem_of_getElem? (i := 4) rfl)
  have n8_ : ∀ w ∈ wsX80, w ∈ wsX8_couldGrind := fun _ h => List.mem_cons_of_mem _ (List.mem_append_right _ h)
  have J60 : ∀ (z0_60 : Int32), ∀ ls : Array Slot, lv_has ls 4 [(0, .ref (b 0))] → f_X8_couldGrind_J60 S z0_60 = some R → W p l e rmX8_couldGrind s m args below meth c s.heap [] 0 0 Q (F0 m 60 ls [.int z0_60]) := by
    intro z0_60 ls hl hf
    rw [f_X8_couldGrind_J60] at hf
    refine lv_istore_n (lv' := [(3, .int z0_60), (0, .ref (b 0))]) hx hb dX8_couldGrind_60 rfl hl (by decide) rfl (fun ls hl => ?_)
    refine lv_aload_n hx hb dX8_couldGrind_61 rfl (lv_at hl 1 rfl) ?_
    refine lv_sipush (v := (145 : Int32)) hx hb dX8_couldGrind_62 (by decide) ?_
    refine lv_sipush (v := (146 : Int32)) hx hb dX8_couldGrind_65 (by decide) ?_
    obtain ⟨q10, hq10, hf⟩ := ob hf
    refine cl_RV (As := [.int (145 : Int32), .int (146 : Int32)]) (rest := []) hF hP hD (c_X8_amounts b (145 : Int32) (146 : Int32) S P Hd Tr Tx told pasts runs typed spot frm reas caus ords ordr q10 hq10) (cwV 2 hts gX8_couldGrind_X8_amounts rfl rfl rfl (by decide +kernel) ⟨(Nat.le_of_ble_eq_true rfl), (Nat.le_of_ble_eq_true rfl)⟩) [0, 1, 2, 3, 4, 5, 6] rfl (by decide +kernel) (va_recv hK hP (ci := 8) (q0 := 0) rfl rfl) rfl rfl hl.1 (Nat.le_of_ble_eq_true rfl) dX8_couldGrind_68 ⟨Nat.zero_le _, Nat.zero_le _⟩ ?_
    refine lv_iload_n hx hb dX8_couldGrind_71 rfl (lv_at hl 0 rfl) ?_
    refine lv_iadd hx hb dX8_couldGrind_72 ?_
    refine lv_sipush (v := (400 : Int32)) hx hb dX8_couldGrind_73 (by decide) ?_
    refine lv_icmp_le (tgt := 84) hx hb dX8_couldGrind_76 (by decide) (fun hc11 => ?_) (fun hc11 => ?_)
    · replace hf := it hc11 hf
      refine lv_iload_n hx hb dX8_couldGrind_84 rfl (lv_at hl 0 rfl) ?_
      obtain rfl := Option.some.inj hf
      exact ret 85 ls _ dX8_couldGrind_85 rfl rfl
    · replace hf := ie hc11 hf
      refine lv_ldc hx hb hown k4_ dX8_couldGrind_79 ?_
      refine lv_goto (tgt := 85) hx hb dX8_couldGrind_81 (by decide) ?_
      obtain rfl := Option.some.inj hf
      exact ret 85 ls _ dX8_couldGrind_85 rfl rfl
  rw [f_X8_couldGrind] at hf
  refine lv_iload_n hx hb dX8_couldGrind_0 rfl (lv_at hl 1 rfl) ?_
  obtain ⟨q1, hq1, hf⟩ := ob hf
  refine cl_RS (As := [.int x1]) (rest := []) hF hP hD (c_X8_isOne x1 q1 hq1) (va_cwS 1 hts gX8_couldGrind_X8_isOne rfl rfl rfl (by decide +kernel) ⟨(Nat.le_of_ble_eq_true rfl), (Nat.le_of_ble_eq_true rfl)⟩) [] rfl (by decide +kernel) rfl rfl hl.1 (Nat.le_of_ble_eq_true rfl) dX8_couldGrind_1 ⟨Nat.zero_le _, Nat.zero_le _⟩ ?_
  refine lv_if_eq (tgt := 18) hx hb dX8_couldGrind_4 (by decide) (fun hc2 => ?_) (fun hc2 => ?_)
  · replace hf := it hc2 hf
    refine lv_ldc hx hb hown k1_ dX8_couldGrind_18 ?_
    obtain rfl := Option.some.inj hf
    exact ret 20 ls _ dX8_couldGrind_20 rfl rfl
  · replace hf := ie hc2 hf
    refine lv_iload_n hx hb dX8_couldGrind_7 rfl (lv_at hl 2 rfl) ?_
    refine lv_iconst (v := (1 : Int32)) hx hb dX8_couldGrind_8 (by decide) ?_
    refine lv_sipush (v := (400 : Int32)) hx hb dX8_couldGrind_9 (by decide) ?_
    obtain ⟨q3, hq3, hf⟩ := ob hf
    refine cl_RS (As := [.int x2, .int (1 : Int32), .int (400 : Int32)]) (rest := []) hF hP hD (c_X8_in x2 (1 : Int32) (400 : Int32) q3 hq3) (va_cwS 3 hts gX8_couldGrind_X8_in rfl rfl rfl (by decide +kernel) ⟨(Nat.le_of_ble_eq_true rfl), (Nat.le_of_ble_eq_true rfl)⟩) [] rfl (by decide +kernel) rfl rfl hl.1 (Nat.le_of_ble_eq_true rfl) dX8_couldGrind_12 ⟨Nat.zero_le _, Nat.zero_le _⟩ ?_
    refine lv_if_ne (tgt := 21) hx hb dX8_couldGrind_15 (by decide) (fun hc4 => ?_) (fun hc4 => ?_)
    · replace hf := ie hc4 hf
      refine lv_aload_n hx hb dX8_couldGrind_21 rfl (lv_at hl 0 rfl) ?_
      obtain ⟨q5, hq5, hf⟩ := ob hf
      refine cl_RV (As := []) (rest := []) hF hP hD (c_X8_hopper b S P Hd Tr Tx told pasts runs typed spot frm reas caus ords ordr q5 hq5) (cwV 0 hts gX8_couldGrind_X8_hopper rfl rfl rfl (by decide +kernel) ⟨(Nat.le_of_ble_eq_true rfl), (Nat.le_of_ble_eq_true rfl)⟩) [0, 1, 2, 3, 4, 5, 6] rfl (by decide +kernel) (va_recv hK hP (ci := 8) (q0 := 0) rfl rfl) rfl rfl hl.1 (Nat.le_of_ble_eq_true rfl) dX8_couldGrind_22 ⟨Nat.zero_le _, Nat.zero_le _⟩ ?_
      refine lv_iload_n hx hb dX8_couldGrind_25 rfl (lv_at hl 2 rfl) ?_
      refine lv_icmp_ge (tgt := 32) hx hb dX8_couldGrind_26 (by decide) (fun hc6 => ?_) (fun hc6 => ?_)
      · replace hf := it hc6 hf
        refine lv_aload_n hx hb dX8_couldGrind_32 rfl (lv_at hl 0 rfl) ?_
        refine lv_bipush (v := (34 : Int32)) hx hb dX8_couldGrind_33 (by decide) ?_
        refine lv_bipush (v := (35 : Int32)) hx hb dX8_couldGrind_35 (by decide) ?_
        obtain ⟨q7, hq7, hf⟩ := ob hf
        refine cl_RV (As := [.int (34 : Int32), .int (35 : Int32)]) (rest := []) hF hP hD (c_X8_amounts b (34 : Int32) (35 : Int32) S P Hd Tr Tx told pasts runs typed spot frm reas caus ords ordr q7 hq7) (cwV 2 hts gX8_couldGrind_X8_amounts rfl rfl rfl (by decide +kernel) ⟨(Nat.le_of_ble_eq_true rfl), (Nat.le_of_ble_eq_true rfl)⟩) [0, 1, 2, 3, 4, 5, 6] rfl (by decide +kernel) (va_recv hK hP (ci := 8) (q0 := 0) rfl rfl) rfl rfl hl.1 (Nat.le_of_ble_eq_true rfl) dX8_couldGrind_37 ⟨Nat.zero_le _, Nat.zero_le _⟩ ?_
        refine lv_iload_n hx hb dX8_couldGrind_40 rfl (lv_at hl 2 rfl) ?_
        refine lv_iadd hx hb dX8_couldGrind_41 ?_
        refine lv_aload_n hx hb dX8_couldGrind_42 rfl (lv_at hl 0 rfl) ?_
        refine va_get hx hb hts n8_ hown hK hP 0 rfl rfl 0 (Nat.le_of_ble_eq_true rfl) k3_ (fun _ h => h) rfl dX8_couldGrind_43 ?_
        refine lv_bipush (v := (9 : Int32)) hx hb dX8_couldGrind_46 (by decide) ?_
        refine va_iald hx hb hK hP 1 0 rfl rfl (show ¬ ((9 : Int32) < 0 ∨ 631 ≤ (9 : Int32).toNatClampNeg) by decide) dX8_couldGrind_48 ?_
        refine lv_isub hx hb dX8_couldGrind_49 ?_
        refine lv_topi (fun v8 ev8 => ?_)
        replace hf := lt_e ev8 hf
        refine lv_istore_n (lv' := [(3, .int v8), (0, .ref (b 0)), (1, .int x1), (2, .int x2)]) hx hb dX8_couldGrind_50 rfl hl (by decide) rfl (fun ls hl => ?_)
        refine lv_iload_n hx hb dX8_couldGrind_51 rfl (lv_at hl 0 rfl) ?_
        refine lv_if_ge (tgt := 59) hx hb dX8_couldGrind_52 (by decide) (fun hc9 => ?_) (fun hc9 => ?_)
        · replace hf := it hc9 hf
          refine lv_iload_n hx hb dX8_couldGrind_59 rfl (lv_at hl 0 rfl) ?_
          exact J60 v8 ls (lv_sub hl [1] rfl) hf
        · replace hf := ie hc9 hf
          refine lv_iconst (v := (0 : Int32)) hx hb dX8_couldGrind_55 (by decide) ?_
          refine lv_goto (tgt := 60) hx hb dX8_couldGrind_56 (by decide) ?_
          exact J60 (0 : Int32) ls (lv_sub hl [1] rfl) hf
      · replace hf := ie hc6 hf
        refine lv_ldc hx hb hown k2_ dX8_couldGrind_29 ?_
        obtain rfl := Option.some.inj hf
        exact ret 31 ls _ dX8_couldGrind_31 rfl rfl
    · replace hf := it hc4 hf
      refine lv_ldc hx hb hown k1_ dX8_couldGrind_18 ?_
      obtain rfl := Option.some.inj hf
      exact ret 20 ls _ dX8_couldGrind_20 rfl rfl
abbrev rmX8_grinds : Room := { frames := 4, cells := 0, slots := 0, locals := 69 }
set_option maxHeartbeats 4000000 in
set_option maxRecDepth 100000 in
theorem c_X8_grinds (b : Nat → Nat) (x1 : Int32) (x2 : Int32) (S : Nat → Int32) (P : Nat → Int32) (Hd : Nat → Int32) (Tr : Nat → Int32) (Tx : Nat → Int32) (told : Nat → Int32) (pasts : Int32) (runs : Int32) (typed : Int32) (spot : Int32) (frm : Int32) (reas : Int32) (caus : Int32) (ords : Int32) (ordr : Int32) (R : (Nat → Int32)) (hf : f_X8_grinds x1 x2 S = some R) : WrV l yX8_grinds wsX8_grinds rmX8_grinds D cI cC (w_model cI cC b S P Hd Tr Tx told pasts runs typed spot frm reas caus ords ordr) (w_model cI cC b R P Hd Tr Tx told pasts runs typed spot frm reas caus ords ordr) [.ref (b 0), .int x1, .int x2] := by
  refine en_V (cc := cX8_grinds) (n := 4) (by decide) rfl (Nat.le_of_ble_eq_true rfl) ?_
  intro p e s m args below meth c Q AA ls hx hb hml hown hts hK hN hP hD hS hl ret
  have hown : s.vm.findClass RX8 = some m.cls := hown
  have hF : FX p m c cX8_grinds 4 s args wsX8_grinds RX8 D cI cC := ⟨⟨hx, hb, hml, hown, hts⟩, hK, hN⟩
  have hl : lv_has ls 4 [(0, .ref (b 0)), (1, .int x1), (2, .int x2)] := hl
  have k1_ := hts (.fieldLink RX8 7 "DriftGrindersModel" "s" "[I") (List.mem_of_getElem? (i := 1) rfl)
  have n8_ : ∀ w ∈ wsX80, w ∈ wsX8_grinds := fun _ h => List.mem_cons_of_mem _ (List.mem_append_right _ h)
  have J43 : ∀ (y1_43 : Int32) (y2_43 : Int32) (z0_43 : Int32) (z1_43 : Int32) (S_43 : Nat → Int32) (H : Heap) (locs : List Loc), va_P D vwCl (w_model cI cC b S_43 P Hd Tr Tx told pasts runs typed spot frm reas caus ords ordr) H → va_D AA (w_model cI cC b S_43 P Hd Tr Tx told pasts runs typed spot frm reas caus ords ordr) → va_S AA s.heap H locs → ∀ ls : Array Slot, lv_has ls 4 [(0, .ref (b 0)), (1, .int y1_43), (2, .int y2_43)] → f_X8_grinds_J43 y1_43 y2_43 z0_43 z1_43 S_43 = some R → W p l e rmX8_grinds s m args below meth c H locs 0 0 Q (F0 m 43 ls [.int z0_43, .int z1_43, .ref (b 1)]) := by
    intro y1_43 y2_43 z0_43 z1_43 S_43 H locs hP hD hS ls hl hf
    rw [f_X8_grinds_J43] at hf
    obtain ⟨hg5, hf⟩ := gd_s hf
    refine x_iast hx hb hK hP hD hS 1 0 rfl rfl hg5 dX8_grinds_43 (fun Z6 H locs eZ6 hP hD hS => ?_)
    replace hf := lt_e eZ6 hf
    have hP : va_P D vwCl (w_model cI cC b Z6 P Hd Tr Tx told pasts runs typed spot frm reas caus ords ordr) H := hP
    have hD : va_D AA (w_model cI cC b Z6 P Hd Tr Tx told pasts runs typed spot frm reas caus ords ordr) := hD
    refine lv_aload_n hx hb dX8_grinds_44 rfl (lv_at hl 0 rfl) ?_
    refine va_get hx hb hts n8_ hown hK hP 0 rfl rfl 0 (Nat.le_of_ble_eq_true rfl) k1_ (fun _ h => h) rfl dX8_grinds_45 ?_
    refine lv_bipush (v := (13 : Int32)) hx hb dX8_grinds_48 (by decide) ?_
    refine lv_iconst (v := (4 : Int32)) hx hb dX8_grinds_50 (by decide) ?_
    refine lv_iload_n hx hb dX8_grinds_51 rfl (lv_at hl 1 rfl) ?_
    refine lv_imul hx hb dX8_grinds_52 ?_
    refine lv_iadd hx hb dX8_grinds_53 ?_
    refine lv_iconst (v := (2 : Int32)) hx hb dX8_grinds_54 (by decide) ?_
    refine lv_iadd hx hb dX8_grinds_55 ?_
    refine lv_topi (fun v7 ev7 => ?_)
    replace hf := lt_e ev7 hf
    refine lv_dup2_11 hx hb dX8_grinds_56 rfl rfl ?_
    obtain ⟨hg8, hf⟩ := gd_s hf
    refine va_iald hx hb hK hP 1 0 rfl rfl hg8 dX8_grinds_57 ?_
    refine lv_iload_n hx hb dX8_grinds_58 rfl (lv_at hl 2 rfl) ?_
    refine lv_iadd hx hb dX8_grinds_59 ?_
    refine lv_topi (fun v9 ev9 => ?_)
    replace hf := lt_e ev9 hf
    obtain ⟨hg10, hf⟩ := gd_s hf
    refine x_iast hx hb hK hP hD hS 1 0 rfl rfl hg10 dX8_grinds_60 (fun Z11 H locs eZ11 hP hD hS => ?_)
    replace hf := lt_e eZ11 hf
    have hP : va_P D vwCl (w_model cI cC b Z11 P Hd Tr Tx told pasts runs typed spot frm reas caus ords ordr) H := hP
    have hD : va_D AA (w_model cI cC b Z11 P Hd Tr Tx told pasts runs typed spot frm reas caus ords ordr) := hD
    refine lv_aload_n hx hb dX8_grinds_61 rfl (lv_at hl 0 rfl) ?_
    refine va_get hx hb hts n8_ hown hK hP 0 rfl rfl 0 (Nat.le_of_ble_eq_true rfl) k1_ (fun _ h => h) rfl dX8_grinds_62 ?_
    refine lv_iconst (v := (2 : Int32)) hx hb dX8_grinds_65 (by decide) ?_
    refine lv_dup2_11 hx hb dX8_grinds_66 rfl rfl ?_
    refine va_iald hx hb hK hP 1 0 rfl rfl (show ¬ ((2 : Int32) < 0 ∨ 631 ≤ (2 : Int32).toNatClampNeg) by decide) dX8_grinds_67 ?_
    refine lv_iload_n hx hb dX8_grinds_68 rfl (lv_at hl 2 rfl) ?_
    refine lv_iadd hx hb dX8_grinds_69 ?_
    refine lv_topi (fun v12 ev12 => ?_)
    replace hf := lt_e ev12 hf
    refine x_iast hx hb hK hP hD hS 1 0 rfl rfl (show ¬ ((2 : Int32) < 0 ∨ 631 ≤ (2 : Int32).toNatClampNeg) by decide) dX8_grinds_70 (fun Z13 H locs eZ13 hP hD hS => ?_)
    replace hf := lt_e eZ13 hf
    have hP : va_P D vwCl (w_model cI cC b Z13 P Hd Tr Tx told pasts runs typed spot frm reas caus ords ordr) H := hP
    have hD : va_D AA (w_model cI cC b Z13 P Hd Tr Tx told pasts runs typed spot frm reas caus ords ordr) := hD
    refine lv_aload_n hx hb dX8_grinds_71 rfl (lv_at hl 0 rfl) ?_
    obtain ⟨q14, hq14, hf⟩ := ob hf
    refine cl_VV (W1 := (w_model cI cC b q14 P Hd Tr Tx told pasts runs typed spot frm reas caus ords ordr)) (As := []) (rest := []) hF hP hD hS (c_X8_overflows b Z13 P Hd Tr Tx told pasts runs typed spot frm reas caus ords ordr q14 hq14) (cwV 0 hts gX8_grinds_X8_overflows rfl rfl rfl (by decide +kernel) ⟨(Nat.le_of_ble_eq_true rfl), (Nat.le_of_ble_eq_true rfl)⟩) [0, 1, 2, 3, 4, 5, 6] rfl (by decide +kernel) (va_recv hK hP (ci := 8) (q0 := 0) rfl rfl) rfl rfl hl.1 (Nat.le_of_ble_eq_true rfl) dX8_grinds_72 ⟨Nat.zero_le _, Nat.zero_le _⟩ (hA2 [(b 0), (b 1), (b 2), (b 3), (b 4), (b 5), (b 6)] rfl rfl) [] rfl [] rfl rfl (nW := 7) rfl (by decide +kernel) (fun H locs hP hD hS => ?_)
    obtain rfl := Option.some.inj hf
    exact ret 75 ls H locs dX8_grinds_75 hP hS
  rw [f_X8_grinds] at hf
  obtain ⟨H, hH⟩ : ∃ z : Heap, z = s.heap := ⟨_, rfl⟩
  obtain ⟨locs, hL⟩ : ∃ z : List Loc, z = [] := ⟨_, rfl⟩
  replace hP := hH ▸ hP
  replace hS : va_S AA s.heap H locs := by rw [hH, hL]; exact hS
  suffices hgoal : W p l e rmX8_grinds s m args below meth c H locs 0 0 Q (F0 m 0 ls []) by rw [hH, hL] at hgoal; exact hgoal
  clear hH hL
  refine lv_aload_n hx hb dX8_grinds_0 rfl (lv_at hl 0 rfl) ?_
  refine lv_iload_n hx hb dX8_grinds_1 rfl (lv_at hl 1 rfl) ?_
  refine lv_iload_n hx hb dX8_grinds_2 rfl (lv_at hl 2 rfl) ?_
  obtain ⟨q1, hq1, hf⟩ := ob hf
  refine cl_VV (W1 := (w_model cI cC b q1 P Hd Tr Tx told pasts runs typed spot frm reas caus ords ordr)) (As := [.int x1, .int x2]) (rest := []) hF hP hD hS (c_X8_comes b x1 x2 S P Hd Tr Tx told pasts runs typed spot frm reas caus ords ordr q1 hq1) (cwV 2 hts gX8_grinds_X8_comes rfl rfl rfl (by decide +kernel) ⟨(Nat.le_of_ble_eq_true rfl), (Nat.le_of_ble_eq_true rfl)⟩) [0, 1, 2, 3, 4, 5, 6] rfl (by decide +kernel) (va_recv hK hP (ci := 8) (q0 := 0) rfl rfl) rfl rfl hl.1 (Nat.le_of_ble_eq_true rfl) dX8_grinds_3 ⟨Nat.zero_le _, Nat.zero_le _⟩ (hA2 [(b 0), (b 1), (b 2), (b 3), (b 4), (b 5), (b 6)] rfl rfl) [] rfl [] rfl rfl (nW := 7) rfl (by decide +kernel) (fun H locs hP hD hS => ?_)
  refine lv_aload_n hx hb dX8_grinds_6 rfl (lv_at hl 0 rfl) ?_
  refine lv_iload_n hx hb dX8_grinds_7 rfl (lv_at hl 1 rfl) ?_
  refine lv_iconst (v := (1 : Int32)) hx hb dX8_grinds_8 (by decide) ?_
  obtain ⟨q2, hq2, hf⟩ := ob hf
  refine cl_RV (As := [.int x1, .int (1 : Int32)]) (rest := []) hF hP hD (c_X8_ofBurr b x1 (1 : Int32) q1 P Hd Tr Tx told pasts runs typed spot frm reas caus ords ordr q2 hq2) (cwV 2 hts gX8_grinds_X8_ofBurr rfl rfl rfl (by decide +kernel) ⟨(Nat.le_of_ble_eq_true rfl), (Nat.le_of_ble_eq_true rfl)⟩) [0, 1, 2, 3, 4, 5, 6] rfl (by decide +kernel) (va_recv hK hP (ci := 8) (q0 := 0) rfl rfl) rfl rfl hl.1 (Nat.le_of_ble_eq_true rfl) dX8_grinds_9 ⟨Nat.zero_le _, Nat.zero_le _⟩ ?_
  refine lv_iload_n hx hb dX8_grinds_12 rfl (lv_at hl 2 rfl) ?_
  refine lv_iconst (v := (4 : Int32)) hx hb dX8_grinds_13 (by decide) ?_
  refine lv_idiv hx hb dX8_grinds_14 (by decide) ?_
  refine lv_iadd hx hb dX8_grinds_15 ?_
  refine lv_topi (fun v3 ev3 => ?_)
  replace hf := lt_e ev3 hf
  refine lv_istore_n (lv' := [(3, .int v3), (0, .ref (b 0)), (1, .int x1), (2, .int x2)]) hx hb dX8_grinds_16 rfl hl (by decide) rfl (fun ls hl => ?_)
  refine lv_aload_n hx hb dX8_grinds_17 rfl (lv_at hl 1 rfl) ?_
  refine va_get hx hb hts n8_ hown hK hP 0 rfl rfl 0 (Nat.le_of_ble_eq_true rfl) k1_ (fun _ h => h) rfl dX8_grinds_18 ?_
  refine lv_bipush (v := (13 : Int32)) hx hb dX8_grinds_21 (by decide) ?_
  refine lv_iconst (v := (4 : Int32)) hx hb dX8_grinds_23 (by decide) ?_
  refine lv_iload_n hx hb dX8_grinds_24 rfl (lv_at hl 2 rfl) ?_
  refine lv_imul hx hb dX8_grinds_25 ?_
  refine lv_iadd hx hb dX8_grinds_26 ?_
  refine lv_iconst (v := (1 : Int32)) hx hb dX8_grinds_27 (by decide) ?_
  refine lv_iadd hx hb dX8_grinds_28 ?_
  refine lv_iload_n hx hb dX8_grinds_29 rfl (lv_at hl 0 rfl) ?_
  refine lv_sipush (v := (300 : Int32)) hx hb dX8_grinds_30 (by decide) ?_
  refine lv_icmp_le (tgt := 42) hx hb dX8_grinds_33 (by decide) (fun hc4 => ?_) (fun hc4 => ?_)
  · replace hf := it hc4 hf
    refine lv_iload_n hx hb dX8_grinds_42 rfl (lv_at hl 0 rfl) ?_
    exact J43 x1 x2 v3 (((13 : Int32) + ((4 : Int32) * x1)) + (1 : Int32)) q1 H locs hP hD hS ls (lv_sub hl [1, 2, 3] rfl) hf
  · replace hf := ie hc4 hf
    refine lv_sipush (v := (300 : Int32)) hx hb dX8_grinds_36 (by decide) ?_
    refine lv_goto (tgt := 43) hx hb dX8_grinds_39 (by decide) ?_
    exact J43 x1 x2 (300 : Int32) (((13 : Int32) + ((4 : Int32) * x1)) + (1 : Int32)) q1 H locs hP hD hS ls (lv_sub hl [1, 2, 3] rfl) hf
end
