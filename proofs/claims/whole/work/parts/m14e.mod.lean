section
variable {l : Launch} {D : va_G} {cI cC : ClassId}
abbrev rmX8_best : Room := { frames := 2, cells := 0, slots := 0, locals := 22 }
set_option maxHeartbeats 4000000 in
set_option maxRecDepth 100000 in
theorem c_X8_best (b : Nat → Nat) (x1 : Int32) (S : Nat → Int32) (P : Nat → Int32) (Hd : Nat → Int32) (Tr : Nat → Int32) (Tx : Nat → Int32) (told : Nat → Int32) (pasts : Int32) (runs : Int32) (typed : Int32) (spot : Int32) (frm : Int32) (reas : Int32) (caus : Int32) (ords : Int32) (ordr : Int32) (R : Int32) (hf : f_X8_best x1 S = some R) : RdI l yX8_best wsX8_best rmX8_best D cI cC (w_model cI cC b S P Hd Tr Tx told pasts runs typed spot frm reas caus ords ordr) [.ref (b 0), .int x1] R := by
  refine en_R (cc := cX8_best) (n := 8) (by decide) rfl (Nat.le_of_ble_eq_true rfl) ?_
  intro p e s m args below meth c Q AA ls hx hb hml hown hts hK hN hP hD hl ret
  have hown : s.vm.findClass RX8 = some m.cls := hown
  have hF : FX p m c cX8_best 8 s args wsX8_best RX8 D cI cC := ⟨⟨hx, hb, hml, hown, hts⟩, hK, hN⟩
  have hl : lv_has ls 8 [(0, .ref (b 0)), (1, .int x1)] := hl
  have k1_ := hts (.constant RX8 64 (-1000001)) (List.mem_of_getElem? (i := 1) rfl)
  have k2_ := hts (.constant RX8 96 (-1000004)) (List.mem_of_getElem? (i := 2) rfl)
  have k3_ := hts (.fieldLink RX8 7 "DriftGrindersModel" "s" "[I") (List.mem_of_getElem? (i := 3) rfl)
  have n8_ : ∀ w ∈ wsX80, w ∈ wsX8_best := fun _ h => List.mem_cons_of_mem _ (List.mem_append_right _ h)
  have L12 : ∀ n12 : Nat, ∀ (y1_12 : Int32) (y2_12 : Int32) (y3_12 : Int32), ∀ ls : Array Slot, lv_has ls 8 [(0, .ref (b 0)), (1, .int y1_12), (2, .int y2_12), (3, .int y3_12)] → f_X8_best_L12 S y1_12 n12 y2_12 y3_12 = some R → W p l e rmX8_best s m args below meth c s.heap [] 0 0 Q (F0 m 12 ls []) := by
    intro n12
    induction n12 with
    | zero => intro y1_12 y2_12 y3_12 ls hl hf; rw [f_X8_best_L12] at hf; cases hf
    | succ n12 IH12 =>
      intro y1_12 y2_12 y3_12 ls hl hf
      have J145 : ∀ (y3_145 : Int32) (z0_145 : Int32), ∀ ls : Array Slot, lv_has ls 8 [(0, .ref (b 0)), (1, .int y1_12), (3, .int y3_145)] → f_X8_best_J145 (f_X8_best_L12 S y1_12 n12) S y1_12 y3_145 z0_145 = some R → W p l e rmX8_best s m args below meth c s.heap [] 0 0 Q (F0 m 145 ls [.int z0_145]) := by
        intro y3_145 z0_145 ls hl hf
        rw [f_X8_best_J145] at hf
        refine lv_istore_n (lv' := [(2, .int z0_145), (0, .ref (b 0)), (1, .int y1_12), (3, .int y3_145)]) hx hb dX8_best_145 rfl hl (by decide) rfl (fun ls hl => ?_)
        obtain ⟨v13, ev13⟩ : ∃ z : Int32, z = y3_145 + (1 : Int32) := ⟨_, rfl⟩
        replace hf := lt_e ev13 hf
        refine lv_iinc (v := v13) (lv' := [(3, .int v13), (2, .int z0_145), (0, .ref (b 0)), (1, .int y1_12)]) hx hb dX8_best_146 hl (k := 3) rfl (by rw [ev13]; rfl) (by decide) rfl (fun ls hl => ?_)
        refine lv_goto (tgt := 12) hx hb dX8_best_149 (by decide) ?_
        exact IH12 y1_12 z0_145 v13 ls (lv_sub hl [2, 3, 1, 0] rfl) hf
      have L51 : ∀ n51 : Nat, ∀ (y2_51 : Int32) (y3_51 : Int32) (y4_51 : Int32) (y5_51 : Int32) (y6_51 : Int32), ∀ ls : Array Slot, lv_has ls 8 [(0, .ref (b 0)), (1, .int y1_12), (2, .int y2_51), (3, .int y3_51), (4, .int y4_51), (5, .int y5_51), (6, .int y6_51)] → f_X8_best_L51 (f_X8_best_L12 S y1_12 n12) S y1_12 y2_51 y3_51 y4_51 n51 y5_51 y6_51 = some R → W p l e rmX8_best s m args below meth c s.heap [] 0 0 Q (F0 m 51 ls []) := by
        intro n51
        induction n51 with
        | zero => intro y2_51 y3_51 y4_51 y5_51 y6_51 ls hl hf; rw [f_X8_best_L51] at hf; cases hf
        | succ n51 IH51 =>
          intro y2_51 y3_51 y4_51 y5_51 y6_51 ls hl hf
          have J113 : ∀ (y6_113 : Int32) (z0_113 : Int32) (z1_113 : Int32), ∀ ls : Array Slot, lv_has ls 8 [(0, .ref (b 0)), (1, .int y1_12), (2, .int y2_51), (3, .int y3_51), (4, .int y4_51), (6, .int y6_113)] → f_X8_best_J113 (f_X8_best_L12 S y1_12 n12) (f_X8_best_L51 (f_X8_best_L12 S y1_12 n12) S y1_12 y2_51 y3_51 y4_51 n51) S y1_12 y2_51 y3_51 y4_51 y6_113 z0_113 z1_113 = some R → W p l e rmX8_best s m args below meth c s.heap [] 0 0 Q (F0 m 113 ls [.int z0_113, .int z1_113]) := by
            intro y6_113 z0_113 z1_113 ls hl hf
            rw [f_X8_best_J113] at hf
            refine lv_iadd hx hb dX8_best_113 ?_
            refine lv_topi (fun v14 ev14 => ?_)
            replace hf := lt_e ev14 hf
            refine lv_istore (lv' := [(5, .int v14), (0, .ref (b 0)), (1, .int y1_12), (2, .int y2_51), (3, .int y3_51), (4, .int y4_51), (6, .int y6_113)]) hx hb dX8_best_114 hl (by decide) rfl (fun ls hl => ?_)
            obtain ⟨v15, ev15⟩ : ∃ z : Int32, z = y6_113 + (1 : Int32) := ⟨_, rfl⟩
            replace hf := lt_e ev15 hf
            refine lv_iinc (v := v15) (lv' := [(6, .int v15), (5, .int v14), (0, .ref (b 0)), (1, .int y1_12), (2, .int y2_51), (3, .int y3_51), (4, .int y4_51)]) hx hb dX8_best_116 hl (k := 6) rfl (by rw [ev15]; rfl) (by decide) rfl (fun ls hl => ?_)
            refine lv_goto (tgt := 51) hx hb dX8_best_119 (by decide) ?_
            exact IH51 y2_51 y3_51 y4_51 v14 v15 ls (lv_sub hl [2, 3, 4, 5, 6, 1, 0] rfl) hf
          have J112 : ∀ (y6_112 : Int32) (z0_112 : Int32), ∀ ls : Array Slot, lv_has ls 8 [(0, .ref (b 0)), (1, .int y1_12), (2, .int y2_51), (3, .int y3_51), (4, .int y4_51), (6, .int y6_112)] → f_X8_best_J112 (f_X8_best_L12 S y1_12 n12) (f_X8_best_L51 (f_X8_best_L12 S y1_12 n12) S y1_12 y2_51 y3_51 y4_51 n51) S y1_12 y2_51 y3_51 y4_51 y6_112 z0_112 = some R → W p l e rmX8_best s m args below meth c s.heap [] 0 0 Q (F0 m 112 ls [.int z0_112]) := by
            intro y6_112 z0_112 ls hl hf
            rw [f_X8_best_J112] at hf
            refine lv_iconst (v := (0 : Int32)) hx hb dX8_best_112 (by decide) ?_
            exact J113 y6_112 (0 : Int32) z0_112 ls (lv_sub hl [0, 1, 2, 3, 4, 5] rfl) hf
          have J108 : ∀ (y6_108 : Int32) (z0_108 : Int32), ∀ ls : Array Slot, lv_has ls 8 [(0, .ref (b 0)), (1, .int y1_12), (2, .int y2_51), (3, .int y3_51), (4, .int y4_51), (6, .int y6_108)] → f_X8_best_J108 (f_X8_best_L12 S y1_12 n12) (f_X8_best_L51 (f_X8_best_L12 S y1_12 n12) S y1_12 y2_51 y3_51 y4_51 n51) S y1_12 y2_51 y3_51 y4_51 y6_108 z0_108 = some R → W p l e rmX8_best s m args below meth c s.heap [] 0 0 Q (F0 m 108 ls [.int z0_108]) := by
            intro y6_108 z0_108 ls hl hf
            rw [f_X8_best_J108] at hf
            refine lv_iconst (v := (1 : Int32)) hx hb dX8_best_108 (by decide) ?_
            refine lv_goto (tgt := 113) hx hb dX8_best_109 (by decide) ?_
            exact J113 y6_108 (1 : Int32) z0_108 ls (lv_sub hl [0, 1, 2, 3, 4, 5] rfl) hf
          rw [f_X8_best_L51] at hf
          refine lv_iload hx hb dX8_best_51 (lv_at hl 6 rfl) ?_
          refine lv_aload_n hx hb dX8_best_53 rfl (lv_at hl 0 rfl) ?_
          refine va_get hx hb hts n8_ hown hK hP 0 rfl rfl 0 (Nat.le_of_ble_eq_true rfl) k3_ (fun _ h => h) rfl dX8_best_54 ?_
          refine lv_sipush (v := (546 : Int32)) hx hb dX8_best_57 (by decide) ?_
          refine va_iald hx hb hK hP 1 0 rfl rfl (show ¬ ((546 : Int32) < 0 ∨ 631 ≤ (546 : Int32).toNatClampNeg) by decide) dX8_best_60 ?_
          refine lv_icmp_ge (tgt := 122) hx hb dX8_best_61 (by decide) (fun hc5 => ?_) (fun hc5 => ?_)
          · replace hf := it hc5 hf
            refine lv_iload hx hb dX8_best_122 (lv_at hl 5 rfl) ?_
            refine lv_iload_n hx hb dX8_best_124 rfl (lv_at hl 1 rfl) ?_
            refine lv_icmp_ne (tgt := 144) hx hb dX8_best_125 (by decide) (fun hc6 => ?_) (fun hc6 => ?_)
            · replace hf := ie hc6 hf
              refine lv_iload_n hx hb dX8_best_144 rfl (lv_at hl 2 rfl) ?_
              exact J145 y3_51 y2_51 ls (lv_sub hl [0, 1, 3] rfl) hf
            · replace hf := it hc6 hf
              refine lv_aload_n hx hb dX8_best_128 rfl (lv_at hl 0 rfl) ?_
              refine va_get hx hb hts n8_ hown hK hP 0 rfl rfl 0 (Nat.le_of_ble_eq_true rfl) k3_ (fun _ h => h) rfl dX8_best_129 ?_
              refine lv_sipush (v := (547 : Int32)) hx hb dX8_best_132 (by decide) ?_
              refine lv_bipush (v := (7 : Int32)) hx hb dX8_best_135 (by decide) ?_
              refine lv_iload_n hx hb dX8_best_137 rfl (lv_at hl 3 rfl) ?_
              refine lv_imul hx hb dX8_best_138 ?_
              refine lv_iadd hx hb dX8_best_139 ?_
              obtain ⟨hg7, hf⟩ := gd_s hf
              refine va_iald hx hb hK hP 1 0 rfl rfl hg7 dX8_best_140 ?_
              refine lv_goto (tgt := 145) hx hb dX8_best_141 (by decide) ?_
              exact J145 y3_51 (S ((547 : Int32) + ((7 : Int32) * y3_51)).toNatClampNeg) ls (lv_sub hl [0, 1, 3] rfl) hf
          · replace hf := ie hc5 hf
            refine lv_aload_n hx hb dX8_best_64 rfl (lv_at hl 0 rfl) ?_
            refine lv_aload_n hx hb dX8_best_65 rfl (lv_at hl 0 rfl) ?_
            refine va_get hx hb hts n8_ hown hK hP 0 rfl rfl 0 (Nat.le_of_ble_eq_true rfl) k3_ (fun _ h => h) rfl dX8_best_66 ?_
            refine lv_sipush (v := (547 : Int32)) hx hb dX8_best_69 (by decide) ?_
            refine lv_bipush (v := (7 : Int32)) hx hb dX8_best_72 (by decide) ?_
            refine lv_iload hx hb dX8_best_74 (lv_at hl 6 rfl) ?_
            refine lv_imul hx hb dX8_best_76 ?_
            refine lv_iadd hx hb dX8_best_77 ?_
            refine lv_iconst (v := (1 : Int32)) hx hb dX8_best_78 (by decide) ?_
            refine lv_iadd hx hb dX8_best_79 ?_
            obtain ⟨hg8, hf⟩ := gd_s hf
            refine va_iald hx hb hK hP 1 0 rfl rfl hg8 dX8_best_80 ?_
            obtain ⟨q9, hq9, hf⟩ := ob hf
            refine cl_RV (As := [.int (S (((547 : Int32) + ((7 : Int32) * y6_51)) + (1 : Int32)).toNatClampNeg)]) (rest := []) hF hP hD (c_X8_away b (S (((547 : Int32) + ((7 : Int32) * y6_51)) + (1 : Int32)).toNatClampNeg) S P Hd Tr Tx told pasts runs typed spot frm reas caus ords ordr q9 hq9) (cwV 1 hts gX8_best_X8_away rfl rfl rfl (by decide +kernel) ⟨(Nat.le_of_ble_eq_true rfl), (Nat.le_of_ble_eq_true rfl)⟩) [0, 1, 2, 3, 4, 5, 6] rfl (by decide +kernel) (va_recv hK hP (ci := 8) (q0 := 0) rfl rfl) rfl rfl hl.1 (Nat.le_of_ble_eq_true rfl) dX8_best_81 ⟨Nat.zero_le _, Nat.zero_le _⟩ ?_
            refine lv_istore (lv' := [(7, .int q9), (0, .ref (b 0)), (1, .int y1_12), (2, .int y2_51), (3, .int y3_51), (4, .int y4_51), (5, .int y5_51), (6, .int y6_51)]) hx hb dX8_best_84 hl (by decide) rfl (fun ls hl => ?_)
            refine lv_iload hx hb dX8_best_86 (lv_at hl 6 rfl) ?_
            refine lv_iload hx hb dX8_best_88 (lv_at hl 0 rfl) ?_
            refine lv_iload hx hb dX8_best_90 (lv_at hl 5 rfl) ?_
            refine lv_icmp_lt (tgt := 108) hx hb dX8_best_92 (by decide) (fun hc10 => ?_) (fun hc10 => ?_)
            · replace hf := it hc10 hf
              exact J108 y6_51 y5_51 ls (lv_sub hl [1, 2, 3, 4, 5, 7] rfl) hf
            · replace hf := ie hc10 hf
              refine lv_iload hx hb dX8_best_95 (lv_at hl 0 rfl) ?_
              refine lv_iload hx hb dX8_best_97 (lv_at hl 5 rfl) ?_
              refine lv_icmp_ne (tgt := 112) hx hb dX8_best_99 (by decide) (fun hc11 => ?_) (fun hc11 => ?_)
              · replace hf := ie hc11 hf
                exact J112 y6_51 y5_51 ls (lv_sub hl [1, 2, 3, 4, 5, 7] rfl) hf
              · replace hf := it hc11 hf
                refine lv_iload hx hb dX8_best_102 (lv_at hl 7 rfl) ?_
                refine lv_iload_n hx hb dX8_best_104 rfl (lv_at hl 4 rfl) ?_
                refine lv_icmp_ge (tgt := 112) hx hb dX8_best_105 (by decide) (fun hc12 => ?_) (fun hc12 => ?_)
                · replace hf := it hc12 hf
                  exact J112 y6_51 y5_51 ls (lv_sub hl [1, 2, 3, 4, 5, 7] rfl) hf
                · replace hf := ie hc12 hf
                  exact J108 y6_51 y5_51 ls (lv_sub hl [1, 2, 3, 4, 5, 7] rfl) hf
      rw [f_X8_best_L12] at hf
      refine lv_iload_n hx hb dX8_best_12 rfl (lv_at hl 3 rfl) ?_
      refine lv_aload_n hx hb dX8_best_13 rfl (lv_at hl 0 rfl) ?_
      refine va_get hx hb hts n8_ hown hK hP 0 rfl rfl 0 (Nat.le_of_ble_eq_true rfl) k3_ (fun _ h => h) rfl dX8_best_14 ?_
      refine lv_sipush (v := (546 : Int32)) hx hb dX8_best_17 (by decide) ?_
      refine va_iald hx hb hK hP 1 0 rfl rfl (show ¬ ((546 : Int32) < 0 ∨ 631 ≤ (546 : Int32).toNatClampNeg) by decide) dX8_best_20 ?_
      refine lv_icmp_ge (tgt := 152) hx hb dX8_best_21 (by decide) (fun hc2 => ?_) (fun hc2 => ?_)
      · replace hf := it hc2 hf
        refine lv_iload_n hx hb dX8_best_152 rfl (lv_at hl 2 rfl) ?_
        obtain rfl := Option.some.inj hf
        exact ret 153 ls _ dX8_best_153 rfl rfl
      · replace hf := ie hc2 hf
        refine lv_aload_n hx hb dX8_best_24 rfl (lv_at hl 0 rfl) ?_
        refine lv_aload_n hx hb dX8_best_25 rfl (lv_at hl 0 rfl) ?_
        refine va_get hx hb hts n8_ hown hK hP 0 rfl rfl 0 (Nat.le_of_ble_eq_true rfl) k3_ (fun _ h => h) rfl dX8_best_26 ?_
        refine lv_sipush (v := (547 : Int32)) hx hb dX8_best_29 (by decide) ?_
        refine lv_bipush (v := (7 : Int32)) hx hb dX8_best_32 (by decide) ?_
        refine lv_iload_n hx hb dX8_best_34 rfl (lv_at hl 3 rfl) ?_
        refine lv_imul hx hb dX8_best_35 ?_
        refine lv_iadd hx hb dX8_best_36 ?_
        refine lv_iconst (v := (1 : Int32)) hx hb dX8_best_37 (by decide) ?_
        refine lv_iadd hx hb dX8_best_38 ?_
        obtain ⟨hg3, hf⟩ := gd_s hf
        refine va_iald hx hb hK hP 1 0 rfl rfl hg3 dX8_best_39 ?_
        obtain ⟨q4, hq4, hf⟩ := ob hf
        refine cl_RV (As := [.int (S (((547 : Int32) + ((7 : Int32) * y3_12)) + (1 : Int32)).toNatClampNeg)]) (rest := []) hF hP hD (c_X8_away b (S (((547 : Int32) + ((7 : Int32) * y3_12)) + (1 : Int32)).toNatClampNeg) S P Hd Tr Tx told pasts runs typed spot frm reas caus ords ordr q4 hq4) (cwV 1 hts gX8_best_X8_away rfl rfl rfl (by decide +kernel) ⟨(Nat.le_of_ble_eq_true rfl), (Nat.le_of_ble_eq_true rfl)⟩) [0, 1, 2, 3, 4, 5, 6] rfl (by decide +kernel) (va_recv hK hP (ci := 8) (q0 := 0) rfl rfl) rfl rfl hl.1 (Nat.le_of_ble_eq_true rfl) dX8_best_40 ⟨Nat.zero_le _, Nat.zero_le _⟩ ?_
        refine lv_istore (lv' := [(4, .int q4), (0, .ref (b 0)), (1, .int y1_12), (2, .int y2_12), (3, .int y3_12)]) hx hb dX8_best_43 hl (by decide) rfl (fun ls hl => ?_)
        refine lv_iconst (v := (0 : Int32)) hx hb dX8_best_45 (by decide) ?_
        refine lv_istore (lv' := [(5, .int (0 : Int32)), (4, .int q4), (0, .ref (b 0)), (1, .int y1_12), (2, .int y2_12), (3, .int y3_12)]) hx hb dX8_best_46 hl (by decide) rfl (fun ls hl => ?_)
        refine lv_iconst (v := (0 : Int32)) hx hb dX8_best_48 (by decide) ?_
        refine lv_istore (lv' := [(6, .int (0 : Int32)), (5, .int (0 : Int32)), (4, .int q4), (0, .ref (b 0)), (1, .int y1_12), (2, .int y2_12), (3, .int y3_12)]) hx hb dX8_best_49 hl (by decide) rfl (fun ls hl => ?_)
        exact L51 FU y2_12 y3_12 q4 (0 : Int32) (0 : Int32) ls (lv_sub hl [3, 4, 5, 6, 2, 1, 0] rfl) hf
  rw [f_X8_best] at hf
  refine lv_iload_n hx hb dX8_best_0 rfl (lv_at hl 1 rfl) ?_
  refine lv_if_ge (tgt := 7) hx hb dX8_best_1 (by decide) (fun hc1 => ?_) (fun hc1 => ?_)
  · replace hf := it hc1 hf
    refine lv_ldc hx hb hown k2_ dX8_best_7 ?_
    refine lv_istore_n (lv' := [(2, .int (-1000004 : Int32)), (0, .ref (b 0)), (1, .int x1)]) hx hb dX8_best_9 rfl hl (by decide) rfl (fun ls hl => ?_)
    refine lv_iconst (v := (0 : Int32)) hx hb dX8_best_10 (by decide) ?_
    refine lv_istore_n (lv' := [(3, .int (0 : Int32)), (2, .int (-1000004 : Int32)), (0, .ref (b 0)), (1, .int x1)]) hx hb dX8_best_11 rfl hl (by decide) rfl (fun ls hl => ?_)
    exact L12 FU x1 (-1000004 : Int32) (0 : Int32) ls (lv_sub hl [2, 3, 1, 0] rfl) hf
  · replace hf := ie hc1 hf
    refine lv_ldc hx hb hown k1_ dX8_best_4 ?_
    obtain rfl := Option.some.inj hf
    exact ret 6 ls _ dX8_best_6 rfl rfl
abbrev rmX8_wouldTake : Room := { frames := 5, cells := 0, slots := 0, locals := 92 }
set_option maxHeartbeats 4000000 in
set_option maxRecDepth 100000 in
theorem c_X8_wouldTake (b : Nat → Nat) (x1 : Int32) (x2 : Int32) (S : Nat → Int32) (P : Nat → Int32) (Hd : Nat → Int32) (Tr : Nat → Int32) (Tx : Nat → Int32) (told : Nat → Int32) (pasts : Int32) (runs : Int32) (typed : Int32) (spot : Int32) (frm : Int32) (reas : Int32) (caus : Int32) (ords : Int32) (ordr : Int32) (R : Int32 × (Nat → Int32) × (Nat → Int32)) (hf : f_X8_wouldTake x1 x2 S Tr = some R) : WrI l yX8_wouldTake wsX8_wouldTake rmX8_wouldTake D cI cC (w_model cI cC b S P Hd Tr Tx told pasts runs typed spot frm reas caus ords ordr) (w_model cI cC b R.2.1 P Hd R.2.2 Tx told pasts runs typed spot frm reas caus ords ordr) [.ref (b 0), .int x1, .int x2] R.1 := by
  refine en_W (cc := cX8_wouldTake) (n := 5) (by decide) rfl (Nat.le_of_ble_eq_true rfl) ?_
  intro p e s m args below meth c Q AA ls hx hb hml hown hts hK hN hP hD hS hl ret
  have hown : s.vm.findClass RX8 = some m.cls := hown
  have hF : FX p m c cX8_wouldTake 5 s args wsX8_wouldTake RX8 D cI cC := ⟨⟨hx, hb, hml, hown, hts⟩, hK, hN⟩
  have hl : lv_has ls 5 [(0, .ref (b 0)), (1, .int x1), (2, .int x2)] := hl
  have k1_ := hts (.fieldLink RX8 7 "DriftGrindersModel" "s" "[I") (List.mem_of_getElem? (i := 1) rfl)
  have k2_ := hts (.constant RX8 79 (-1000002)) (List.mem_of_getElem? (i := 2) rfl)
  have k3_ := hts (.fieldLink RX8 19 "DriftGrindersModel" "tried" "[I") (List.mem_of_getElem? (i := 3) rfl)
  have n8_ : ∀ w ∈ wsX80, w ∈ wsX8_wouldTake := fun _ h => List.mem_cons_of_mem _ (List.mem_append_right _ h)
  have J31 : ∀ (y1_31 : Int32) (y2_31 : Int32) (S_31 : Nat → Int32) (Tr_31 : Nat → Int32) (H : Heap) (locs : List Loc), va_P D vwCl (w_model cI cC b S_31 P Hd Tr_31 Tx told pasts runs typed spot frm reas caus ords ordr) H → va_D AA (w_model cI cC b S_31 P Hd Tr_31 Tx told pasts runs typed spot frm reas caus ords ordr) → va_S AA s.heap H locs → ∀ ls : Array Slot, lv_has ls 5 [(0, .ref (b 0)), (1, .int y1_31), (2, .int y2_31)] → f_X8_wouldTake_J31 y1_31 y2_31 S_31 Tr_31 = some R → W p l e rmX8_wouldTake s m args below meth c H locs 0 0 Q (F0 m 31 ls []) := by
    intro y1_31 y2_31 S_31 Tr_31 H locs hP hD hS ls hl hf
    rw [f_X8_wouldTake_J31] at hf
    refine lv_aload_n hx hb dX8_wouldTake_31 rfl (lv_at hl 0 rfl) ?_
    refine va_get hx hb hts n8_ hown hK hP 0 rfl rfl 0 (Nat.le_of_ble_eq_true rfl) k1_ (fun _ h => h) rfl dX8_wouldTake_32 ?_
    refine lv_aload_n hx hb dX8_wouldTake_35 rfl (lv_at hl 0 rfl) ?_
    refine va_get hx hb hts n8_ hown hK hP 0 rfl rfl 3 (Nat.le_of_ble_eq_true rfl) k3_ (fun _ h => h) rfl dX8_wouldTake_36 ?_
    obtain ⟨q5, hq5, hf⟩ := ob hf
    refine cl_VS (W1 := (w_model cI cC b S_31 P Hd q5 Tx told pasts runs typed spot frm reas caus ords ordr)) (As := [.ref (b 1), .ref (b 4)]) (rest := []) hF hP hD hS (c_X8_copies (b 1) (b 4) S_31 Tr_31 q5 hq5) (va_cwS 2 hts gX8_wouldTake_X8_copies rfl rfl rfl (by decide +kernel) ⟨(Nat.le_of_ble_eq_true rfl), (Nat.le_of_ble_eq_true rfl)⟩) [1, 4] rfl (by decide +kernel) rfl rfl hl.1 (Nat.le_of_ble_eq_true rfl) dX8_wouldTake_39 ⟨Nat.zero_le _, Nat.zero_le _⟩ (hA2 [(b 1), (b 4)] rfl rfl) [0, 2, 3, 5, 6] rfl [((b 0), .inr (8, [.ref (b 1), .ref (b 2), .ref (b 3), .ref (b 4), .int pasts, .int runs, .ref (b 5), .int typed, .int spot, .int frm, .int reas, .int caus, .int ords, .int ordr, .ref (b 6)])), ((b 2), .inl (cI, 2524, .inl P)), ((b 3), .inl (cI, 631, .inl Hd)), ((b 5), .inl (cI, 60, .inl Tx)), ((b 6), .inl (cI, 2, .inl told))] rfl rfl (nW := 7) rfl (by decide +kernel) (fun H locs hP hD hS => ?_)
    refine lv_aload_n hx hb dX8_wouldTake_42 rfl (lv_at hl 0 rfl) ?_
    refine lv_iload_n hx hb dX8_wouldTake_43 rfl (lv_at hl 1 rfl) ?_
    refine lv_iload_n hx hb dX8_wouldTake_44 rfl (lv_at hl 2 rfl) ?_
    obtain ⟨q6, hq6, hf⟩ := ob hf
    refine cl_VV (W1 := (w_model cI cC b q6 P Hd q5 Tx told pasts runs typed spot frm reas caus ords ordr)) (As := [.int y1_31, .int y2_31]) (rest := []) hF hP hD hS (c_X8_grinds b y1_31 y2_31 S_31 P Hd q5 Tx told pasts runs typed spot frm reas caus ords ordr q6 hq6) (cwV 2 hts gX8_wouldTake_X8_grinds rfl rfl rfl (by decide +kernel) ⟨(Nat.le_of_ble_eq_true rfl), (Nat.le_of_ble_eq_true rfl)⟩) [0, 1, 2, 3, 4, 5, 6] rfl (by decide +kernel) (va_recv hK hP (ci := 8) (q0 := 0) rfl rfl) rfl rfl hl.1 (Nat.le_of_ble_eq_true rfl) dX8_wouldTake_45 ⟨Nat.zero_le _, Nat.zero_le _⟩ (hA2 [(b 0), (b 1), (b 2), (b 3), (b 4), (b 5), (b 6)] rfl rfl) [] rfl [] rfl rfl (nW := 7) rfl (by decide +kernel) (fun H locs hP hD hS => ?_)
    refine lv_aload_n hx hb dX8_wouldTake_48 rfl (lv_at hl 0 rfl) ?_
    obtain ⟨q7, hq7, hf⟩ := ob hf
    refine cl_RV (As := []) (rest := []) hF hP hD (c_X8_timeNow b q6 P Hd q5 Tx told pasts runs typed spot frm reas caus ords ordr q7 hq7) (cwV 0 hts gX8_wouldTake_X8_timeNow rfl rfl rfl (by decide +kernel) ⟨(Nat.le_of_ble_eq_true rfl), (Nat.le_of_ble_eq_true rfl)⟩) [0, 1, 2, 3, 4, 5, 6] rfl (by decide +kernel) (va_recv hK hP (ci := 8) (q0 := 0) rfl rfl) rfl rfl hl.1 (Nat.le_of_ble_eq_true rfl) dX8_wouldTake_49 ⟨Nat.zero_le _, Nat.zero_le _⟩ ?_
    refine lv_istore (lv' := [(4, .int q7), (0, .ref (b 0)), (1, .int y1_31), (2, .int y2_31)]) hx hb dX8_wouldTake_52 hl (by decide) rfl (fun ls hl => ?_)
    refine lv_aload_n hx hb dX8_wouldTake_54 rfl (lv_at hl 1 rfl) ?_
    refine va_get hx hb hts n8_ hown hK hP 0 rfl rfl 3 (Nat.le_of_ble_eq_true rfl) k3_ (fun _ h => h) rfl dX8_wouldTake_55 ?_
    refine lv_aload_n hx hb dX8_wouldTake_58 rfl (lv_at hl 1 rfl) ?_
    refine va_get hx hb hts n8_ hown hK hP 0 rfl rfl 0 (Nat.le_of_ble_eq_true rfl) k1_ (fun _ h => h) rfl dX8_wouldTake_59 ?_
    obtain ⟨q8, hq8, hf⟩ := ob hf
    refine cl_VS (W1 := (w_model cI cC b q8 P Hd q5 Tx told pasts runs typed spot frm reas caus ords ordr)) (As := [.ref (b 4), .ref (b 1)]) (rest := []) hF hP hD hS (c_X8_copies (b 4) (b 1) q5 q6 q8 hq8) (va_cwS 2 hts gX8_wouldTake_X8_copies rfl rfl rfl (by decide +kernel) ⟨(Nat.le_of_ble_eq_true rfl), (Nat.le_of_ble_eq_true rfl)⟩) [4, 1] rfl (by decide +kernel) rfl rfl hl.1 (Nat.le_of_ble_eq_true rfl) dX8_wouldTake_62 ⟨Nat.zero_le _, Nat.zero_le _⟩ (hA2 [(b 4), (b 1)] rfl rfl) [0, 2, 3, 5, 6] rfl [((b 0), .inr (8, [.ref (b 1), .ref (b 2), .ref (b 3), .ref (b 4), .int pasts, .int runs, .ref (b 5), .int typed, .int spot, .int frm, .int reas, .int caus, .int ords, .int ordr, .ref (b 6)])), ((b 2), .inl (cI, 2524, .inl P)), ((b 3), .inl (cI, 631, .inl Hd)), ((b 5), .inl (cI, 60, .inl Tx)), ((b 6), .inl (cI, 2, .inl told))] rfl rfl (nW := 7) rfl (by decide +kernel) (fun H locs hP hD hS => ?_)
    refine lv_iload hx hb dX8_wouldTake_65 (lv_at hl 0 rfl) ?_
    obtain rfl := Option.some.inj hf
    exact ret 67 ls _ H locs dX8_wouldTake_67 rfl rfl hP hS
  rw [f_X8_wouldTake] at hf
  obtain ⟨H, hH⟩ : ∃ z : Heap, z = s.heap := ⟨_, rfl⟩
  obtain ⟨locs, hL⟩ : ∃ z : List Loc, z = [] := ⟨_, rfl⟩
  replace hP := hH ▸ hP
  replace hS : va_S AA s.heap H locs := by rw [hH, hL]; exact hS
  suffices hgoal : W p l e rmX8_wouldTake s m args below meth c H locs 0 0 Q (F0 m 0 ls []) by rw [hH, hL] at hgoal; exact hgoal
  clear hH hL
  refine lv_aload_n hx hb dX8_wouldTake_0 rfl (lv_at hl 0 rfl) ?_
  refine lv_iload_n hx hb dX8_wouldTake_1 rfl (lv_at hl 1 rfl) ?_
  refine lv_iload_n hx hb dX8_wouldTake_2 rfl (lv_at hl 2 rfl) ?_
  obtain ⟨q1, hq1, hf⟩ := ob hf
  refine cl_RV (As := [.int x1, .int x2]) (rest := []) hF hP hD (c_X8_couldGrind b x1 x2 S P Hd Tr Tx told pasts runs typed spot frm reas caus ords ordr q1 hq1) (cwV 2 hts gX8_wouldTake_X8_couldGrind rfl rfl rfl (by decide +kernel) ⟨(Nat.le_of_ble_eq_true rfl), (Nat.le_of_ble_eq_true rfl)⟩) [0, 1, 2, 3, 4, 5, 6] rfl (by decide +kernel) (va_recv hK hP (ci := 8) (q0 := 0) rfl rfl) rfl rfl hl.1 (Nat.le_of_ble_eq_true rfl) dX8_wouldTake_3 ⟨Nat.zero_le _, Nat.zero_le _⟩ ?_
  refine lv_istore_n (lv' := [(3, .int q1), (0, .ref (b 0)), (1, .int x1), (2, .int x2)]) hx hb dX8_wouldTake_6 rfl hl (by decide) rfl (fun ls hl => ?_)
  refine lv_iload_n hx hb dX8_wouldTake_7 rfl (lv_at hl 0 rfl) ?_
  refine lv_if_ge (tgt := 13) hx hb dX8_wouldTake_8 (by decide) (fun hc2 => ?_) (fun hc2 => ?_)
  · replace hf := it hc2 hf
    refine lv_iload_n hx hb dX8_wouldTake_13 rfl (lv_at hl 0 rfl) ?_
    refine lv_if_ne (tgt := 31) hx hb dX8_wouldTake_14 (by decide) (fun hc3 => ?_) (fun hc3 => ?_)
    · replace hf := ie hc3 hf
      exact J31 x1 x2 S Tr H locs hP hD hS ls (lv_sub hl [1, 2, 3] rfl) hf
    · replace hf := it hc3 hf
      refine lv_aload_n hx hb dX8_wouldTake_17 rfl (lv_at hl 1 rfl) ?_
      refine va_get hx hb hts n8_ hown hK hP 0 rfl rfl 0 (Nat.le_of_ble_eq_true rfl) k1_ (fun _ h => h) rfl dX8_wouldTake_18 ?_
      refine lv_sipush (v := (145 : Int32)) hx hb dX8_wouldTake_21 (by decide) ?_
      refine va_iald hx hb hK hP 1 0 rfl rfl (show ¬ ((145 : Int32) < 0 ∨ 631 ≤ (145 : Int32).toNatClampNeg) by decide) dX8_wouldTake_24 ?_
      refine lv_if_ne (tgt := 31) hx hb dX8_wouldTake_25 (by decide) (fun hc4 => ?_) (fun hc4 => ?_)
      · replace hf := ie hc4 hf
        exact J31 x1 x2 S Tr H locs hP hD hS ls (lv_sub hl [1, 2, 3] rfl) hf
      · replace hf := it hc4 hf
        refine lv_ldc hx hb hown k2_ dX8_wouldTake_28 ?_
        obtain rfl := Option.some.inj hf
        exact ret 30 ls _ H locs dX8_wouldTake_30 rfl rfl hP hS
  · replace hf := ie hc2 hf
    refine lv_iload_n hx hb dX8_wouldTake_11 rfl (lv_at hl 0 rfl) ?_
    obtain rfl := Option.some.inj hf
    exact ret 12 ls _ H locs dX8_wouldTake_12 rfl rfl hP hS
abbrev rmX8_dialFor : Room := { frames := 3, cells := 0, slots := 0, locals := 42 }
set_option maxHeartbeats 4000000 in
set_option maxRecDepth 100000 in
theorem c_X8_dialFor (b : Nat → Nat) (x1 : Int32) (x2 : Int32) (S : Nat → Int32) (P : Nat → Int32) (Hd : Nat → Int32) (Tr : Nat → Int32) (Tx : Nat → Int32) (told : Nat → Int32) (pasts : Int32) (runs : Int32) (typed : Int32) (spot : Int32) (frm : Int32) (reas : Int32) (caus : Int32) (ords : Int32) (ordr : Int32) (R : Int32) (hf : f_X8_dialFor x1 x2 S = some R) : RdI l yX8_dialFor wsX8_dialFor rmX8_dialFor D cI cC (w_model cI cC b S P Hd Tr Tx told pasts runs typed spot frm reas caus ords ordr) [.ref (b 0), .int x1, .int x2] R := by
  refine en_R (cc := cX8_dialFor) (n := 7) (by decide) rfl (Nat.le_of_ble_eq_true rfl) ?_
  intro p e s m args below meth c Q AA ls hx hb hml hown hts hK hN hP hD hl ret
  have hown : s.vm.findClass RX8 = some m.cls := hown
  have hF : FX p m c cX8_dialFor 7 s args wsX8_dialFor RX8 D cI cC := ⟨⟨hx, hb, hml, hown, hts⟩, hK, hN⟩
  have hl : lv_has ls 7 [(0, .ref (b 0)), (1, .int x1), (2, .int x2)] := hl
  have k1_ := hts (.constant RX8 64 (-1000001)) (List.mem_of_getElem? (i := 1) rfl)
  have k2_ := hts (.fieldLink RX8 7 "DriftGrindersModel" "s" "[I") (List.mem_of_getElem? (i := 2) rfl)
  have n8_ : ∀ w ∈ wsX80, w ∈ wsX8_dialFor := fun _ h => List.mem_cons_of_mem _ (List.mem_append_right _ h)
  have L25 : ∀ n25 : Nat, ∀ (y1_25 : Int32) (y2_25 : Int32) (y3_25 : Int32) (y4_25 : Int32) (y5_25 : Int32), ∀ ls : Array Slot, lv_has ls 7 [(0, .ref (b 0)), (1, .int y1_25), (2, .int y2_25), (3, .int y3_25), (4, .int y4_25), (5, .int y5_25)] → f_X8_dialFor_L25 S y1_25 y2_25 n25 y3_25 y4_25 y5_25 = some R → W p l e rmX8_dialFor s m args below meth c s.heap [] 0 0 Q (F0 m 25 ls []) := by
    intro n25
    induction n25 with
    | zero => intro y1_25 y2_25 y3_25 y4_25 y5_25 ls hl hf; rw [f_X8_dialFor_L25] at hf; cases hf
    | succ n25 IH25 =>
      intro y1_25 y2_25 y3_25 y4_25 y5_25 ls hl hf
      have J82 : ∀ (y3_82 : Int32) (y4_82 : Int32) (y5_82 : Int32), ∀ ls : Array Slot, lv_has ls 7 [(0, .ref (b 0)), (1, .int y1_25), (2, .int y2_25), (3, .int y3_82), (4, .int y4_82), (5, .int y5_82)] → f_X8_dialFor_J82 (f_X8_dialFor_L25 S y1_25 y2_25 n25) S y1_25 y2_25 y3_82 y4_82 y5_82 = some R → W p l e rmX8_dialFor s m args below meth c s.heap [] 0 0 Q (F0 m 82 ls []) := by
        intro y3_82 y4_82 y5_82 ls hl hf
        rw [f_X8_dialFor_J82] at hf
        obtain ⟨v13, ev13⟩ : ∃ z : Int32, z = y5_82 + (1 : Int32) := ⟨_, rfl⟩
        replace hf := lt_e ev13 hf
        refine lv_iinc (v := v13) (lv' := [(5, .int v13), (0, .ref (b 0)), (1, .int y1_25), (2, .int y2_25), (3, .int y3_82), (4, .int y4_82)]) hx hb dX8_dialFor_82 hl (k := 5) rfl (by rw [ev13]; rfl) (by decide) rfl (fun ls hl => ?_)
        refine lv_goto (tgt := 25) hx hb dX8_dialFor_85 (by decide) ?_
        exact IH25 y1_25 y2_25 y3_82 y4_82 v13 ls (lv_sub hl [1, 2, 3, 4, 5, 0] rfl) hf
      have J75 : ∀ (y5_75 : Int32) (y6_75 : Int32), ∀ ls : Array Slot, lv_has ls 7 [(0, .ref (b 0)), (1, .int y1_25), (2, .int y2_25), (5, .int y5_75), (6, .int y6_75)] → f_X8_dialFor_J75 (f_X8_dialFor_L25 S y1_25 y2_25 n25) S y1_25 y2_25 y5_75 y6_75 = some R → W p l e rmX8_dialFor s m args below meth c s.heap [] 0 0 Q (F0 m 75 ls []) := by
        intro y5_75 y6_75 ls hl hf
        rw [f_X8_dialFor_J75] at hf
        refine lv_iload hx hb dX8_dialFor_75 (lv_at hl 3 rfl) ?_
        refine lv_istore_n (lv' := [(3, .int y5_75), (0, .ref (b 0)), (1, .int y1_25), (2, .int y2_25), (5, .int y5_75), (6, .int y6_75)]) hx hb dX8_dialFor_77 rfl hl (by decide) rfl (fun ls hl => ?_)
        refine lv_iload hx hb dX8_dialFor_78 (lv_at hl 5 rfl) ?_
        refine lv_istore (lv' := [(4, .int y6_75), (3, .int y5_75), (0, .ref (b 0)), (1, .int y1_25), (2, .int y2_25), (5, .int y5_75), (6, .int y6_75)]) hx hb dX8_dialFor_80 hl (by decide) rfl (fun ls hl => ?_)
        exact J82 y5_75 y6_75 y5_75 ls (lv_sub hl [2, 3, 4, 1, 0, 5] rfl) hf
      rw [f_X8_dialFor_L25] at hf
      refine lv_iload hx hb dX8_dialFor_25 (lv_at hl 5 rfl) ?_
      refine lv_bipush (v := (60 : Int32)) hx hb dX8_dialFor_27 (by decide) ?_
      refine lv_icmp_gt (tgt := 88) hx hb dX8_dialFor_29 (by decide) (fun hc5 => ?_) (fun hc5 => ?_)
      · replace hf := it hc5 hf
        refine lv_iload_n hx hb dX8_dialFor_88 rfl (lv_at hl 3 rfl) ?_
        obtain rfl := Option.some.inj hf
        exact ret 89 ls _ dX8_dialFor_89 rfl rfl
      · replace hf := ie hc5 hf
        refine lv_aload_n hx hb dX8_dialFor_32 rfl (lv_at hl 0 rfl) ?_
        refine lv_aload_n hx hb dX8_dialFor_33 rfl (lv_at hl 0 rfl) ?_
        refine va_get hx hb hts n8_ hown hK hP 0 rfl rfl 0 (Nat.le_of_ble_eq_true rfl) k2_ (fun _ h => h) rfl dX8_dialFor_34 ?_
        refine lv_bipush (v := (10 : Int32)) hx hb dX8_dialFor_37 (by decide) ?_
        refine lv_iload_n hx hb dX8_dialFor_39 rfl (lv_at hl 2 rfl) ?_
        refine lv_iadd hx hb dX8_dialFor_40 ?_
        obtain ⟨hg6, hf⟩ := gd_s hf
        refine va_iald hx hb hK hP 1 0 rfl rfl hg6 dX8_dialFor_41 ?_
        refine lv_sipush (v := (1000 : Int32)) hx hb dX8_dialFor_42 (by decide) ?_
        refine lv_imul hx hb dX8_dialFor_45 ?_
        refine lv_iload hx hb dX8_dialFor_46 (lv_at hl 5 rfl) ?_
        refine lv_aload_n hx hb dX8_dialFor_48 rfl (lv_at hl 0 rfl) ?_
        refine lv_iload_n hx hb dX8_dialFor_49 rfl (lv_at hl 1 rfl) ?_
        refine lv_iconst (v := (1 : Int32)) hx hb dX8_dialFor_50 (by decide) ?_
        obtain ⟨q7, hq7, hf⟩ := ob hf
        refine cl_RV (As := [.int y1_25, .int (1 : Int32)]) (rest := [.int y5_25, .int ((S ((10 : Int32) + y2_25).toNatClampNeg) * (1000 : Int32)), .ref (b 0)]) hF hP hD (c_X8_ofBurr b y1_25 (1 : Int32) S P Hd Tr Tx told pasts runs typed spot frm reas caus ords ordr q7 hq7) (cwV 2 hts gX8_dialFor_X8_ofBurr rfl rfl rfl (by decide +kernel) ⟨(Nat.le_of_ble_eq_true rfl), (Nat.le_of_ble_eq_true rfl)⟩) [0, 1, 2, 3, 4, 5, 6] rfl (by decide +kernel) (va_recv hK hP (ci := 8) (q0 := 0) rfl rfl) rfl rfl hl.1 (Nat.le_of_ble_eq_true rfl) dX8_dialFor_51 ⟨Nat.zero_le _, Nat.zero_le _⟩ ?_
        obtain ⟨q8, hq8, hf⟩ := ob hf
        refine cl_RS (As := [.int y5_25, .int q7]) (rest := [.int ((S ((10 : Int32) + y2_25).toNatClampNeg) * (1000 : Int32)), .ref (b 0)]) hF hP hD (c_X8_gapBy y5_25 q7 q8 hq8) (va_cwS 2 hts gX8_dialFor_X8_gapBy rfl rfl rfl (by decide +kernel) ⟨(Nat.le_of_ble_eq_true rfl), (Nat.le_of_ble_eq_true rfl)⟩) [] rfl (by decide +kernel) rfl rfl hl.1 (Nat.le_of_ble_eq_true rfl) dX8_dialFor_54 ⟨Nat.zero_le _, Nat.zero_le _⟩ ?_
        obtain ⟨hg9, hf⟩ := gd_s hf
        refine lv_idiv hx hb dX8_dialFor_57 hg9 ?_
        obtain ⟨q10, hq10, hf⟩ := ob hf
        refine cl_RV (As := [.int (((S ((10 : Int32) + y2_25).toNatClampNeg) * (1000 : Int32)) / q8)]) (rest := []) hF hP hD (c_X8_away b (((S ((10 : Int32) + y2_25).toNatClampNeg) * (1000 : Int32)) / q8) S P Hd Tr Tx told pasts runs typed spot frm reas caus ords ordr q10 hq10) (cwV 1 hts gX8_dialFor_X8_away rfl rfl rfl (by decide +kernel) ⟨(Nat.le_of_ble_eq_true rfl), (Nat.le_of_ble_eq_true rfl)⟩) [0, 1, 2, 3, 4, 5, 6] rfl (by decide +kernel) (va_recv hK hP (ci := 8) (q0 := 0) rfl rfl) rfl rfl hl.1 (Nat.le_of_ble_eq_true rfl) dX8_dialFor_58 ⟨Nat.zero_le _, Nat.zero_le _⟩ ?_
        refine lv_istore (lv' := [(6, .int q10), (0, .ref (b 0)), (1, .int y1_25), (2, .int y2_25), (3, .int y3_25), (4, .int y4_25), (5, .int y5_25)]) hx hb dX8_dialFor_61 hl (by decide) rfl (fun ls hl => ?_)
        refine lv_iload hx hb dX8_dialFor_63 (lv_at hl 5 rfl) ?_
        refine lv_if_lt (tgt := 75) hx hb dX8_dialFor_65 (by decide) (fun hc11 => ?_) (fun hc11 => ?_)
        · replace hf := it hc11 hf
          exact J75 y5_25 q10 ls (lv_sub hl [1, 2, 3, 6, 0] rfl) hf
        · replace hf := ie hc11 hf
          refine lv_iload hx hb dX8_dialFor_68 (lv_at hl 0 rfl) ?_
          refine lv_iload hx hb dX8_dialFor_70 (lv_at hl 5 rfl) ?_
          refine lv_icmp_ge (tgt := 82) hx hb dX8_dialFor_72 (by decide) (fun hc12 => ?_) (fun hc12 => ?_)
          · replace hf := it hc12 hf
            exact J82 y3_25 y4_25 y5_25 ls (lv_sub hl [1, 2, 3, 4, 5, 6] rfl) hf
          · replace hf := ie hc12 hf
            exact J75 y5_25 q10 ls (lv_sub hl [1, 2, 3, 6, 0] rfl) hf
  rw [f_X8_dialFor] at hf
  refine lv_iload_n hx hb dX8_dialFor_0 rfl (lv_at hl 1 rfl) ?_
  obtain ⟨q1, hq1, hf⟩ := ob hf
  refine cl_RS (As := [.int x1]) (rest := []) hF hP hD (c_X8_isOne x1 q1 hq1) (va_cwS 1 hts gX8_dialFor_X8_isOne rfl rfl rfl (by decide +kernel) ⟨(Nat.le_of_ble_eq_true rfl), (Nat.le_of_ble_eq_true rfl)⟩) [] rfl (by decide +kernel) rfl rfl hl.1 (Nat.le_of_ble_eq_true rfl) dX8_dialFor_1 ⟨Nat.zero_le _, Nat.zero_le _⟩ ?_
  refine lv_if_eq (tgt := 14) hx hb dX8_dialFor_4 (by decide) (fun hc2 => ?_) (fun hc2 => ?_)
  · replace hf := it hc2 hf
    refine lv_ldc hx hb hown k1_ dX8_dialFor_14 ?_
    obtain rfl := Option.some.inj hf
    exact ret 16 ls _ dX8_dialFor_16 rfl rfl
  · replace hf := ie hc2 hf
    refine lv_iload_n hx hb dX8_dialFor_7 rfl (lv_at hl 2 rfl) ?_
    obtain ⟨q3, hq3, hf⟩ := ob hf
    refine cl_RS (As := [.int x2]) (rest := []) hF hP hD (c_X8_isOne x2 q3 hq3) (va_cwS 1 hts gX8_dialFor_X8_isOne rfl rfl rfl (by decide +kernel) ⟨(Nat.le_of_ble_eq_true rfl), (Nat.le_of_ble_eq_true rfl)⟩) [] rfl (by decide +kernel) rfl rfl hl.1 (Nat.le_of_ble_eq_true rfl) dX8_dialFor_8 ⟨Nat.zero_le _, Nat.zero_le _⟩ ?_
    refine lv_if_ne (tgt := 17) hx hb dX8_dialFor_11 (by decide) (fun hc4 => ?_) (fun hc4 => ?_)
    · replace hf := ie hc4 hf
      refine lv_iconst (v := (1 : Int32)) hx hb dX8_dialFor_17 (by decide) ?_
      refine lv_istore_n (lv' := [(3, .int (1 : Int32)), (0, .ref (b 0)), (1, .int x1), (2, .int x2)]) hx hb dX8_dialFor_18 rfl hl (by decide) rfl (fun ls hl => ?_)
      refine lv_iconst (v := (-1 : Int32)) hx hb dX8_dialFor_19 (by decide) ?_
      refine lv_istore (lv' := [(4, .int (-1 : Int32)), (3, .int (1 : Int32)), (0, .ref (b 0)), (1, .int x1), (2, .int x2)]) hx hb dX8_dialFor_20 hl (by decide) rfl (fun ls hl => ?_)
      refine lv_iconst (v := (1 : Int32)) hx hb dX8_dialFor_22 (by decide) ?_
      refine lv_istore (lv' := [(5, .int (1 : Int32)), (4, .int (-1 : Int32)), (3, .int (1 : Int32)), (0, .ref (b 0)), (1, .int x1), (2, .int x2)]) hx hb dX8_dialFor_23 hl (by decide) rfl (fun ls hl => ?_)
      exact L25 FU x1 x2 (1 : Int32) (-1 : Int32) (1 : Int32) ls (lv_sub hl [3, 4, 5, 2, 1, 0] rfl) hf
    · replace hf := it hc4 hf
      refine lv_ldc hx hb hown k1_ dX8_dialFor_14 ?_
      obtain rfl := Option.some.inj hf
      exact ret 16 ls _ dX8_dialFor_16 rfl rfl
abbrev rmX8_stale : Room := { frames := 3, cells := 0, slots := 0, locals := 43 }
set_option maxHeartbeats 4000000 in
set_option maxRecDepth 100000 in
theorem c_X8_stale (b : Nat → Nat) (x1 : Int32) (S : Nat → Int32) (P : Nat → Int32) (Hd : Nat → Int32) (Tr : Nat → Int32) (Tx : Nat → Int32) (told : Nat → Int32) (pasts : Int32) (runs : Int32) (typed : Int32) (spot : Int32) (frm : Int32) (reas : Int32) (caus : Int32) (ords : Int32) (ordr : Int32) (R : Int32) (hf : f_X8_stale x1 S = some R) : RdI l yX8_stale wsX8_stale rmX8_stale D cI cC (w_model cI cC b S P Hd Tr Tx told pasts runs typed spot frm reas caus ords ordr) [.ref (b 0), .int x1] R := by
  refine en_R (cc := cX8_stale) (n := 6) (by decide) rfl (Nat.le_of_ble_eq_true rfl) ?_
  intro p e s m args below meth c Q AA ls hx hb hml hown hts hK hN hP hD hl ret
  have hown : s.vm.findClass RX8 = some m.cls := hown
  have hF : FX p m c cX8_stale 6 s args wsX8_stale RX8 D cI cC := ⟨⟨hx, hb, hml, hown, hts⟩, hK, hN⟩
  have hl : lv_has ls 6 [(0, .ref (b 0)), (1, .int x1)] := hl
  have k1_ := hts (.constant RX8 64 (-1000001)) (List.mem_of_getElem? (i := 1) rfl)
  have k2_ := hts (.fieldLink RX8 7 "DriftGrindersModel" "s" "[I") (List.mem_of_getElem? (i := 2) rfl)
  have k3_ := hts (.constant RX8 79 (-1000002)) (List.mem_of_getElem? (i := 3) rfl)
  have n8_ : ∀ w ∈ wsX80, w ∈ wsX8_stale := fun _ h => List.mem_cons_of_mem _ (List.mem_append_right _ h)
  have L30 : ∀ n30 : Nat, ∀ (y1_30 : Int32) (y2_30 : Int32) (y3_30 : Int32) (y4_30 : Int32), ∀ ls : Array Slot, lv_has ls 6 [(0, .ref (b 0)), (1, .int y1_30), (2, .int y2_30), (3, .int y3_30), (4, .int y4_30)] → f_X8_stale_L30 S y1_30 n30 y2_30 y3_30 y4_30 = some R → W p l e rmX8_stale s m args below meth c s.heap [] 0 0 Q (F0 m 30 ls []) := by
    intro n30
    induction n30 with
    | zero => intro y1_30 y2_30 y3_30 y4_30 ls hl hf; rw [f_X8_stale_L30] at hf; cases hf
    | succ n30 IH30 =>
      intro y1_30 y2_30 y3_30 y4_30 ls hl hf
      have J104 : ∀ (y2_104 : Int32) (y4_104 : Int32) (z0_104 : Int32), ∀ ls : Array Slot, lv_has ls 6 [(0, .ref (b 0)), (1, .int y1_30), (2, .int y2_104), (4, .int y4_104)] → f_X8_stale_J104 (f_X8_stale_L30 S y1_30 n30) S y1_30 y2_104 y4_104 z0_104 = some R → W p l e rmX8_stale s m args below meth c s.heap [] 0 0 Q (F0 m 104 ls [.int z0_104]) := by
        intro y2_104 y4_104 z0_104 ls hl hf
        rw [f_X8_stale_J104] at hf
        refine lv_istore_n (lv' := [(3, .int z0_104), (0, .ref (b 0)), (1, .int y1_30), (2, .int y2_104), (4, .int y4_104)]) hx hb dX8_stale_104 rfl hl (by decide) rfl (fun ls hl => ?_)
        obtain ⟨v16, ev16⟩ : ∃ z : Int32, z = y4_104 + (1 : Int32) := ⟨_, rfl⟩
        replace hf := lt_e ev16 hf
        refine lv_iinc (v := v16) (lv' := [(4, .int v16), (3, .int z0_104), (0, .ref (b 0)), (1, .int y1_30), (2, .int y2_104)]) hx hb dX8_stale_105 hl (k := 4) rfl (by rw [ev16]; rfl) (by decide) rfl (fun ls hl => ?_)
        refine lv_goto (tgt := 30) hx hb dX8_stale_108 (by decide) ?_
        exact IH30 y1_30 y2_104 z0_104 v16 ls (lv_sub hl [2, 3, 4, 1, 0] rfl) hf
      have J99 : ∀ (y2_99 : Int32) (y4_99 : Int32), ∀ ls : Array Slot, lv_has ls 6 [(0, .ref (b 0)), (1, .int y1_30), (2, .int y2_99), (4, .int y4_99)] → f_X8_stale_J99 (f_X8_stale_L30 S y1_30 n30) S y1_30 y2_99 y4_99 = some R → W p l e rmX8_stale s m args below meth c s.heap [] 0 0 Q (F0 m 99 ls []) := by
        intro y2_99 y4_99 ls hl hf
        rw [f_X8_stale_J99] at hf
        refine lv_iload_n hx hb dX8_stale_99 rfl (lv_at hl 2 rfl) ?_
        refine lv_goto (tgt := 104) hx hb dX8_stale_100 (by decide) ?_
        exact J104 y2_99 y4_99 y2_99 ls (lv_sub hl [0, 1, 2, 3] rfl) hf
      rw [f_X8_stale_L30] at hf
      refine lv_iload hx hb dX8_stale_30 (lv_at hl 4 rfl) ?_
      refine lv_aload_n hx hb dX8_stale_32 rfl (lv_at hl 0 rfl) ?_
      refine va_get hx hb hts n8_ hown hK hP 0 rfl rfl 0 (Nat.le_of_ble_eq_true rfl) k2_ (fun _ h => h) rfl dX8_stale_33 ?_
      refine lv_bipush (v := (34 : Int32)) hx hb dX8_stale_36 (by decide) ?_
      refine va_iald hx hb hK hP 1 0 rfl rfl (show ¬ ((34 : Int32) < 0 ∨ 631 ≤ (34 : Int32).toNatClampNeg) by decide) dX8_stale_38 ?_
      refine lv_icmp_ge (tgt := 111) hx hb dX8_stale_39 (by decide) (fun hc4 => ?_) (fun hc4 => ?_)
      · replace hf := it hc4 hf
        refine lv_iload_n hx hb dX8_stale_111 rfl (lv_at hl 3 rfl) ?_
        obtain rfl := Option.some.inj hf
        exact ret 112 ls _ dX8_stale_112 rfl rfl
      · replace hf := ie hc4 hf
        refine lv_aload_n hx hb dX8_stale_42 rfl (lv_at hl 0 rfl) ?_
        refine va_get hx hb hts n8_ hown hK hP 0 rfl rfl 0 (Nat.le_of_ble_eq_true rfl) k2_ (fun _ h => h) rfl dX8_stale_43 ?_
        refine lv_bipush (v := (35 : Int32)) hx hb dX8_stale_46 (by decide) ?_
        refine lv_iload hx hb dX8_stale_48 (lv_at hl 4 rfl) ?_
        refine lv_iadd hx hb dX8_stale_50 ?_
        obtain ⟨hg5, hf⟩ := gd_s hf
        refine va_iald hx hb hK hP 1 0 rfl rfl hg5 dX8_stale_51 ?_
        refine lv_topi (fun v6 ev6 => ?_)
        replace hf := lt_e ev6 hf
        refine lv_istore (lv' := [(5, .int v6), (0, .ref (b 0)), (1, .int y1_30), (2, .int y2_30), (3, .int y3_30), (4, .int y4_30)]) hx hb dX8_stale_52 hl (by decide) rfl (fun ls hl => ?_)
        refine lv_iload_n hx hb dX8_stale_54 rfl (lv_at hl 3 rfl) ?_
        refine lv_iload hx hb dX8_stale_55 (lv_at hl 0 rfl) ?_
        obtain ⟨q7, hq7, hf⟩ := ob hf
        refine cl_RS (As := [.int v6]) (rest := [.int y2_30]) hF hP hD (c_X8_amountOf v6 q7 hq7) (va_cwS 1 hts gX8_stale_X8_amountOf rfl rfl rfl (by decide +kernel) ⟨(Nat.le_of_ble_eq_true rfl), (Nat.le_of_ble_eq_true rfl)⟩) [] rfl (by decide +kernel) rfl rfl hl.1 (Nat.le_of_ble_eq_true rfl) dX8_stale_57 ⟨Nat.zero_le _, Nat.zero_le _⟩ ?_
        refine lv_iadd hx hb dX8_stale_60 ?_
        refine lv_topi (fun v8 ev8 => ?_)
        replace hf := lt_e ev8 hf
        refine lv_istore_n (lv' := [(2, .int v8), (5, .int v6), (0, .ref (b 0)), (1, .int y1_30), (3, .int y3_30), (4, .int y4_30)]) hx hb dX8_stale_61 rfl hl (by decide) rfl (fun ls hl => ?_)
        refine lv_iload hx hb dX8_stale_62 (lv_at hl 1 rfl) ?_
        obtain ⟨q9, hq9, hf⟩ := ob hf
        refine cl_RS (As := [.int v6]) (rest := []) hF hP hD (c_X8_kindOf v6 q9 hq9) (va_cwS 1 hts gX8_stale_X8_kindOf rfl rfl rfl (by decide +kernel) ⟨(Nat.le_of_ble_eq_true rfl), (Nat.le_of_ble_eq_true rfl)⟩) [] rfl (by decide +kernel) rfl rfl hl.1 (Nat.le_of_ble_eq_true rfl) dX8_stale_64 ⟨Nat.zero_le _, Nat.zero_le _⟩ ?_
        refine lv_aload_n hx hb dX8_stale_67 rfl (lv_at hl 2 rfl) ?_
        refine va_get hx hb hts n8_ hown hK hP 0 rfl rfl 0 (Nat.le_of_ble_eq_true rfl) k2_ (fun _ h => h) rfl dX8_stale_68 ?_
        refine lv_bipush (v := (22 : Int32)) hx hb dX8_stale_71 (by decide) ?_
        refine va_iald hx hb hK hP 1 0 rfl rfl (show ¬ ((22 : Int32) < 0 ∨ 631 ≤ (22 : Int32).toNatClampNeg) by decide) dX8_stale_73 ?_
        refine lv_icmp_ne (tgt := 99) hx hb dX8_stale_74 (by decide) (fun hc10 => ?_) (fun hc10 => ?_)
        · replace hf := ie hc10 hf
          exact J99 v8 y4_30 ls (lv_sub hl [2, 3, 0, 5] rfl) hf
        · replace hf := it hc10 hf
          refine lv_iload hx hb dX8_stale_77 (lv_at hl 1 rfl) ?_
          obtain ⟨q11, hq11, hf⟩ := ob hf
          refine cl_RS (As := [.int v6]) (rest := []) hF hP hD (c_X8_burrIn v6 q11 hq11) (va_cwS 1 hts gX8_stale_X8_burrIn rfl rfl rfl (by decide +kernel) ⟨(Nat.le_of_ble_eq_true rfl), (Nat.le_of_ble_eq_true rfl)⟩) [] rfl (by decide +kernel) rfl rfl hl.1 (Nat.le_of_ble_eq_true rfl) dX8_stale_79 ⟨Nat.zero_le _, Nat.zero_le _⟩ ?_
          refine lv_iload_n hx hb dX8_stale_82 rfl (lv_at hl 3 rfl) ?_
          refine lv_icmp_ne (tgt := 99) hx hb dX8_stale_83 (by decide) (fun hc12 => ?_) (fun hc12 => ?_)
          · replace hf := ie hc12 hf
            exact J99 v8 y4_30 ls (lv_sub hl [2, 3, 0, 5] rfl) hf
          · replace hf := it hc12 hf
            refine lv_iload hx hb dX8_stale_86 (lv_at hl 1 rfl) ?_
            obtain ⟨q13, hq13, hf⟩ := ob hf
            refine cl_RS (As := [.int v6]) (rest := []) hF hP hD (c_X8_gapOf v6 q13 hq13) (va_cwS 1 hts gX8_stale_X8_gapOf rfl rfl rfl (by decide +kernel) ⟨(Nat.le_of_ble_eq_true rfl), (Nat.le_of_ble_eq_true rfl)⟩) [] rfl (by decide +kernel) rfl rfl hl.1 (Nat.le_of_ble_eq_true rfl) dX8_stale_88 ⟨Nat.zero_le _, Nat.zero_le _⟩ ?_
            refine lv_aload_n hx hb dX8_stale_91 rfl (lv_at hl 2 rfl) ?_
            refine lv_iload_n hx hb dX8_stale_92 rfl (lv_at hl 3 rfl) ?_
            obtain ⟨q14, hq14, hf⟩ := ob hf
            refine cl_RV (As := [.int y1_30]) (rest := [.int q13]) hF hP hD (c_X8_gap b y1_30 S P Hd Tr Tx told pasts runs typed spot frm reas caus ords ordr q14 hq14) (cwV 1 hts gX8_stale_X8_gap rfl rfl rfl (by decide +kernel) ⟨(Nat.le_of_ble_eq_true rfl), (Nat.le_of_ble_eq_true rfl)⟩) [0, 1, 2, 3, 4, 5, 6] rfl (by decide +kernel) (va_recv hK hP (ci := 8) (q0 := 0) rfl rfl) rfl rfl hl.1 (Nat.le_of_ble_eq_true rfl) dX8_stale_93 ⟨Nat.zero_le _, Nat.zero_le _⟩ ?_
            refine lv_icmp_eq (tgt := 103) hx hb dX8_stale_96 (by decide) (fun hc15 => ?_) (fun hc15 => ?_)
            · replace hf := it hc15 hf
              refine lv_iload_n hx hb dX8_stale_103 rfl (lv_at hl 4 rfl) ?_
              exact J104 v8 y4_30 y3_30 ls (lv_sub hl [2, 3, 0, 5] rfl) hf
            · replace hf := ie hc15 hf
              exact J99 v8 y4_30 ls (lv_sub hl [2, 3, 0, 5] rfl) hf
  rw [f_X8_stale] at hf
  refine lv_iload_n hx hb dX8_stale_0 rfl (lv_at hl 1 rfl) ?_
  obtain ⟨q1, hq1, hf⟩ := ob hf
  refine cl_RS (As := [.int x1]) (rest := []) hF hP hD (c_X8_isOne x1 q1 hq1) (va_cwS 1 hts gX8_stale_X8_isOne rfl rfl rfl (by decide +kernel) ⟨(Nat.le_of_ble_eq_true rfl), (Nat.le_of_ble_eq_true rfl)⟩) [] rfl (by decide +kernel) rfl rfl hl.1 (Nat.le_of_ble_eq_true rfl) dX8_stale_1 ⟨Nat.zero_le _, Nat.zero_le _⟩ ?_
  refine lv_if_ne (tgt := 10) hx hb dX8_stale_4 (by decide) (fun hc2 => ?_) (fun hc2 => ?_)
  · replace hf := ie hc2 hf
    refine lv_aload_n hx hb dX8_stale_10 rfl (lv_at hl 0 rfl) ?_
    refine va_get hx hb hts n8_ hown hK hP 0 rfl rfl 0 (Nat.le_of_ble_eq_true rfl) k2_ (fun _ h => h) rfl dX8_stale_11 ?_
    refine lv_bipush (v := (21 : Int32)) hx hb dX8_stale_14 (by decide) ?_
    refine va_iald hx hb hK hP 1 0 rfl rfl (show ¬ ((21 : Int32) < 0 ∨ 631 ≤ (21 : Int32).toNatClampNeg) by decide) dX8_stale_16 ?_
    refine lv_if_ne (tgt := 23) hx hb dX8_stale_17 (by decide) (fun hc3 => ?_) (fun hc3 => ?_)
    · replace hf := ie hc3 hf
      refine lv_iconst (v := (0 : Int32)) hx hb dX8_stale_23 (by decide) ?_
      refine lv_istore_n (lv' := [(2, .int (0 : Int32)), (0, .ref (b 0)), (1, .int x1)]) hx hb dX8_stale_24 rfl hl (by decide) rfl (fun ls hl => ?_)
      refine lv_iconst (v := (0 : Int32)) hx hb dX8_stale_25 (by decide) ?_
      refine lv_istore_n (lv' := [(3, .int (0 : Int32)), (2, .int (0 : Int32)), (0, .ref (b 0)), (1, .int x1)]) hx hb dX8_stale_26 rfl hl (by decide) rfl (fun ls hl => ?_)
      refine lv_iconst (v := (0 : Int32)) hx hb dX8_stale_27 (by decide) ?_
      refine lv_istore (lv' := [(4, .int (0 : Int32)), (3, .int (0 : Int32)), (2, .int (0 : Int32)), (0, .ref (b 0)), (1, .int x1)]) hx hb dX8_stale_28 hl (by decide) rfl (fun ls hl => ?_)
      exact L30 FU x1 (0 : Int32) (0 : Int32) (0 : Int32) ls (lv_sub hl [3, 4, 2, 1, 0] rfl) hf
    · replace hf := it hc3 hf
      refine lv_ldc hx hb hown k3_ dX8_stale_20 ?_
      obtain rfl := Option.some.inj hf
      exact ret 22 ls _ dX8_stale_22 rfl rfl
  · replace hf := it hc2 hf
    refine lv_ldc hx hb hown k1_ dX8_stale_7 ?_
    obtain rfl := Option.some.inj hf
    exact ret 9 ls _ dX8_stale_9 rfl rfl
abbrev rmX8_coolAfter : Room := { frames := 3, cells := 0, slots := 0, locals := 42 }
set_option maxHeartbeats 4000000 in
set_option maxRecDepth 100000 in
theorem c_X8_coolAfter (b : Nat → Nat) (x1 : Int32) (x2 : Int32) (S : Nat → Int32) (P : Nat → Int32) (Hd : Nat → Int32) (Tr : Nat → Int32) (Tx : Nat → Int32) (told : Nat → Int32) (pasts : Int32) (runs : Int32) (typed : Int32) (spot : Int32) (frm : Int32) (reas : Int32) (caus : Int32) (ords : Int32) (ordr : Int32) (R : Int32) (hf : f_X8_coolAfter x1 x2 S = some R) : RdI l yX8_coolAfter wsX8_coolAfter rmX8_coolAfter D cI cC (w_model cI cC b S P Hd Tr Tx told pasts runs typed spot frm reas caus ords ordr) [.ref (b 0), .int x1, .int x2] R := by
  refine en_R (cc := cX8_coolAfter) (n := 5) (by decide) rfl (Nat.le_of_ble_eq_true rfl) ?_
  intro p e s m args below meth c Q AA ls hx hb hml hown hts hK hN hP hD hl ret
  have hown : s.vm.findClass RX8 = some m.cls := hown
  have hF : FX p m c cX8_coolAfter 5 s args wsX8_coolAfter RX8 D cI cC := ⟨⟨hx, hb, hml, hown, hts⟩, hK, hN⟩
  have hl : lv_has ls 5 [(0, .ref (b 0)), (1, .int x1), (2, .int x2)] := hl
  have k1_ := hts (.constant RX8 64 (-1000001)) (List.mem_of_getElem? (i := 1) rfl)
  have k2_ := hts (.fieldLink RX8 7 "DriftGrindersModel" "s" "[I") (List.mem_of_getElem? (i := 2) rfl)
  have n8_ : ∀ w ∈ wsX80, w ∈ wsX8_coolAfter := fun _ h => List.mem_cons_of_mem _ (List.mem_append_right _ h)
  have L31 : ∀ n31 : Nat, ∀ (y2_31 : Int32) (y3_31 : Int32) (y4_31 : Int32), ∀ ls : Array Slot, lv_has ls 5 [(0, .ref (b 0)), (2, .int y2_31), (3, .int y3_31), (4, .int y4_31)] → f_X8_coolAfter_L31 S y2_31 n31 y3_31 y4_31 = some R → W p l e rmX8_coolAfter s m args below meth c s.heap [] 0 0 Q (F0 m 31 ls []) := by
    intro n31
    induction n31 with
    | zero => intro y2_31 y3_31 y4_31 ls hl hf; rw [f_X8_coolAfter_L31] at hf; cases hf
    | succ n31 IH31 =>
      intro y2_31 y3_31 y4_31 ls hl hf
      have J65 : ∀ (y3_65 : Int32) (z0_65 : Int32) (z1_65 : Int32), ∀ ls : Array Slot, lv_has ls 5 [(0, .ref (b 0)), (2, .int y2_31), (3, .int y3_65)] → f_X8_coolAfter_J65 (f_X8_coolAfter_L31 S y2_31 n31) S y2_31 y3_65 z0_65 z1_65 = some R → W p l e rmX8_coolAfter s m args below meth c s.heap [] 0 0 Q (F0 m 65 ls [.int z0_65, .int z1_65]) := by
        intro y3_65 z0_65 z1_65 ls hl hf
        rw [f_X8_coolAfter_J65] at hf
        refine lv_isub hx hb dX8_coolAfter_65 ?_
        refine lv_topi (fun v10 ev10 => ?_)
        replace hf := lt_e ev10 hf
        refine lv_istore (lv' := [(4, .int v10), (0, .ref (b 0)), (2, .int y2_31), (3, .int y3_65)]) hx hb dX8_coolAfter_66 hl (by decide) rfl (fun ls hl => ?_)
        refine lv_goto (tgt := 31) hx hb dX8_coolAfter_68 (by decide) ?_
        exact IH31 y2_31 y3_65 v10 ls (lv_sub hl [1, 2, 3, 0] rfl) hf
      rw [f_X8_coolAfter_L31] at hf
      refine lv_iload hx hb dX8_coolAfter_31 (lv_at hl 3 rfl) ?_
      refine lv_iload_n hx hb dX8_coolAfter_33 rfl (lv_at hl 1 rfl) ?_
      refine lv_icmp_le (tgt := 71) hx hb dX8_coolAfter_34 (by decide) (fun hc6 => ?_) (fun hc6 => ?_)
      · replace hf := it hc6 hf
        refine lv_iload_n hx hb dX8_coolAfter_71 rfl (lv_at hl 2 rfl) ?_
        obtain rfl := Option.some.inj hf
        exact ret 72 ls _ dX8_coolAfter_72 rfl rfl
      · replace hf := ie hc6 hf
        obtain ⟨v7, ev7⟩ : ∃ z : Int32, z = y3_31 + (1 : Int32) := ⟨_, rfl⟩
        replace hf := lt_e ev7 hf
        refine lv_iinc (v := v7) (lv' := [(3, .int v7), (0, .ref (b 0)), (2, .int y2_31), (4, .int y4_31)]) hx hb dX8_coolAfter_37 hl (k := 2) rfl (by rw [ev7]; rfl) (by decide) rfl (fun ls hl => ?_)
        refine lv_iload hx hb dX8_coolAfter_40 (lv_at hl 3 rfl) ?_
        refine lv_aload_n hx hb dX8_coolAfter_42 rfl (lv_at hl 1 rfl) ?_
        refine va_get hx hb hts n8_ hown hK hP 0 rfl rfl 0 (Nat.le_of_ble_eq_true rfl) k2_ (fun _ h => h) rfl dX8_coolAfter_43 ?_
        refine lv_iconst (v := (0 : Int32)) hx hb dX8_coolAfter_46 (by decide) ?_
        refine va_iald hx hb hK hP 1 0 rfl rfl (show ¬ ((0 : Int32) < 0 ∨ 631 ≤ (0 : Int32).toNatClampNeg) by decide) dX8_coolAfter_47 ?_
        refine lv_iload_n hx hb dX8_coolAfter_48 rfl (lv_at hl 0 rfl) ?_
        refine lv_iadd hx hb dX8_coolAfter_49 ?_
        refine lv_bipush (v := (10 : Int32)) hx hb dX8_coolAfter_50 (by decide) ?_
        refine lv_irem hx hb dX8_coolAfter_52 (by decide) ?_
        refine lv_if_ne (tgt := 64) hx hb dX8_coolAfter_53 (by decide) (fun hc8 => ?_) (fun hc8 => ?_)
        · replace hf := ie hc8 hf
          refine lv_iconst (v := (0 : Int32)) hx hb dX8_coolAfter_64 (by decide) ?_
          exact J65 v7 (0 : Int32) y4_31 ls (lv_sub hl [1, 2, 0] rfl) hf
        · replace hf := it hc8 hf
          refine lv_iload hx hb dX8_coolAfter_56 (lv_at hl 3 rfl) ?_
          obtain ⟨q9, hq9, hf⟩ := ob hf
          refine cl_RS (As := [.int y4_31]) (rest := [.int y4_31]) hF hP hD (c_X8_fall y4_31 q9 hq9) (va_cwS 1 hts gX8_coolAfter_X8_fall rfl rfl rfl (by decide +kernel) ⟨(Nat.le_of_ble_eq_true rfl), (Nat.le_of_ble_eq_true rfl)⟩) [] rfl (by decide +kernel) rfl rfl hl.1 (Nat.le_of_ble_eq_true rfl) dX8_coolAfter_58 ⟨Nat.zero_le _, Nat.zero_le _⟩ ?_
          refine lv_goto (tgt := 65) hx hb dX8_coolAfter_61 (by decide) ?_
          exact J65 v7 q9 y4_31 ls (lv_sub hl [1, 2, 0] rfl) hf
  rw [f_X8_coolAfter] at hf
  refine lv_iload_n hx hb dX8_coolAfter_0 rfl (lv_at hl 1 rfl) ?_
  obtain ⟨q1, hq1, hf⟩ := ob hf
  refine cl_RS (As := [.int x1]) (rest := []) hF hP hD (c_X8_isOne x1 q1 hq1) (va_cwS 1 hts gX8_coolAfter_X8_isOne rfl rfl rfl (by decide +kernel) ⟨(Nat.le_of_ble_eq_true rfl), (Nat.le_of_ble_eq_true rfl)⟩) [] rfl (by decide +kernel) rfl rfl hl.1 (Nat.le_of_ble_eq_true rfl) dX8_coolAfter_1 ⟨Nat.zero_le _, Nat.zero_le _⟩ ?_
  refine lv_if_eq (tgt := 18) hx hb dX8_coolAfter_4 (by decide) (fun hc2 => ?_) (fun hc2 => ?_)
  · replace hf := it hc2 hf
    refine lv_ldc hx hb hown k1_ dX8_coolAfter_18 ?_
    obtain rfl := Option.some.inj hf
    exact ret 20 ls _ dX8_coolAfter_20 rfl rfl
  · replace hf := ie hc2 hf
    refine lv_iload_n hx hb dX8_coolAfter_7 rfl (lv_at hl 2 rfl) ?_
    refine lv_iconst (v := (0 : Int32)) hx hb dX8_coolAfter_8 (by decide) ?_
    refine lv_sipush (v := (300 : Int32)) hx hb dX8_coolAfter_9 (by decide) ?_
    obtain ⟨q3, hq3, hf⟩ := ob hf
    refine cl_RS (As := [.int x2, .int (0 : Int32), .int (300 : Int32)]) (rest := []) hF hP hD (c_X8_in x2 (0 : Int32) (300 : Int32) q3 hq3) (va_cwS 3 hts gX8_coolAfter_X8_in rfl rfl rfl (by decide +kernel) ⟨(Nat.le_of_ble_eq_true rfl), (Nat.le_of_ble_eq_true rfl)⟩) [] rfl (by decide +kernel) rfl rfl hl.1 (Nat.le_of_ble_eq_true rfl) dX8_coolAfter_12 ⟨Nat.zero_le _, Nat.zero_le _⟩ ?_
    refine lv_if_ne (tgt := 21) hx hb dX8_coolAfter_15 (by decide) (fun hc4 => ?_) (fun hc4 => ?_)
    · replace hf := ie hc4 hf
      refine lv_iconst (v := (0 : Int32)) hx hb dX8_coolAfter_21 (by decide) ?_
      refine lv_istore_n (lv' := [(3, .int (0 : Int32)), (0, .ref (b 0)), (1, .int x1), (2, .int x2)]) hx hb dX8_coolAfter_22 rfl hl (by decide) rfl (fun ls hl => ?_)
      refine lv_aload_n hx hb dX8_coolAfter_23 rfl (lv_at hl 1 rfl) ?_
      refine lv_iload_n hx hb dX8_coolAfter_24 rfl (lv_at hl 2 rfl) ?_
      refine lv_iconst (v := (1 : Int32)) hx hb dX8_coolAfter_25 (by decide) ?_
      obtain ⟨q5, hq5, hf⟩ := ob hf
      refine cl_RV (As := [.int x1, .int (1 : Int32)]) (rest := []) hF hP hD (c_X8_ofBurr b x1 (1 : Int32) S P Hd Tr Tx told pasts runs typed spot frm reas caus ords ordr q5 hq5) (cwV 2 hts gX8_coolAfter_X8_ofBurr rfl rfl rfl (by decide +kernel) ⟨(Nat.le_of_ble_eq_true rfl), (Nat.le_of_ble_eq_true rfl)⟩) [0, 1, 2, 3, 4, 5, 6] rfl (by decide +kernel) (va_recv hK hP (ci := 8) (q0 := 0) rfl rfl) rfl rfl hl.1 (Nat.le_of_ble_eq_true rfl) dX8_coolAfter_26 ⟨Nat.zero_le _, Nat.zero_le _⟩ ?_
      refine lv_istore (lv' := [(4, .int q5), (3, .int (0 : Int32)), (0, .ref (b 0)), (1, .int x1), (2, .int x2)]) hx hb dX8_coolAfter_29 hl (by decide) rfl (fun ls hl => ?_)
      exact L31 FU x2 (0 : Int32) q5 ls (lv_sub hl [2, 4, 1, 0] rfl) hf
    · replace hf := it hc4 hf
      refine lv_ldc hx hb hown k1_ dX8_coolAfter_18 ?_
      obtain rfl := Option.some.inj hf
      exact ret 20 ls _ dX8_coolAfter_20 rfl rfl
abbrev rmX8_count : Room := { frames := 3, cells := 0, slots := 0, locals := 44 }
set_option maxHeartbeats 4000000 in
set_option maxRecDepth 100000 in
theorem c_X8_count (b : Nat → Nat) (x1 : Int32) (S : Nat → Int32) (P : Nat → Int32) (Hd : Nat → Int32) (Tr : Nat → Int32) (Tx : Nat → Int32) (told : Nat → Int32) (pasts : Int32) (runs : Int32) (typed : Int32) (spot : Int32) (frm : Int32) (reas : Int32) (caus : Int32) (ords : Int32) (ordr : Int32) (R : Int32) (hf : f_X8_count x1 S pasts typed = some R) : RdI l yX8_count wsX8_count rmX8_count D cI cC (w_model cI cC b S P Hd Tr Tx told pasts runs typed spot frm reas caus ords ordr) [.ref (b 0), .int x1] R := by
  refine en_R (cc := cX8_count) (n := 2) (by decide) rfl (Nat.le_of_ble_eq_true rfl) ?_
  intro p e s m args below meth c Q AA ls hx hb hml hown hts hK hN hP hD hl ret
  have hown : s.vm.findClass RX8 = some m.cls := hown
  have hF : FX p m c cX8_count 2 s args wsX8_count RX8 D cI cC := ⟨⟨hx, hb, hml, hown, hts⟩, hK, hN⟩
  have hl : lv_has ls 2 [(0, .ref (b 0)), (1, .int x1)] := hl
  have k1_ := hts (.fieldLink RX8 7 "DriftGrindersModel" "s" "[I") (List.mem_of_getElem? (i := 1) rfl)
  have k2_ := hts (.fieldLink RX8 36 "DriftGrindersModel" "pasts" "I") (List.mem_of_getElem? (i := 2) rfl)
  have k3_ := hts (.fieldLink RX8 122 "DriftGrindersModel" "typed" "I") (List.mem_of_getElem? (i := 3) rfl)
  have k4_ := hts (.constant RX8 64 (-1000001)) (List.mem_of_getElem? (i := 4) rfl)
  have n8_ : ∀ w ∈ wsX80, w ∈ wsX8_count := fun _ h => List.mem_cons_of_mem _ (List.mem_append_right _ h)
  rw [f_X8_count] at hf
  refine lv_iload_n hx hb dX8_count_0 rfl (lv_at hl 1 rfl) ?_
  by_cases hc1 : x1 = 0
  · replace hf := it hc1 hf
    refine lv_tableIn (off := 63) (tgt := 64) hx hb dX8_count_1 (by rw [hc1]; decide) (by rw [hc1]; decide) (by rw [hc1]; rfl) (by decide) ?_
    refine lv_aload_n hx hb dX8_count_64 rfl (lv_at hl 0 rfl) ?_
    refine va_get hx hb hts n8_ hown hK hP 0 rfl rfl 0 (Nat.le_of_ble_eq_true rfl) k1_ (fun _ h => h) rfl dX8_count_65 ?_
    refine lv_iload_n hx hb dX8_count_68 rfl (lv_at hl 1 rfl) ?_
    obtain ⟨hg2, hf⟩ := gd_s hf
    refine va_iald hx hb hK hP 1 0 rfl rfl hg2 dX8_count_69 ?_
    obtain rfl := Option.some.inj hf
    exact ret 70 ls _ dX8_count_70 rfl rfl
  replace hf := ie hc1 hf
  by_cases hc3 : x1 = 1
  · replace hf := it hc3 hf
    refine lv_tableIn (off := 63) (tgt := 64) hx hb dX8_count_1 (by rw [hc3]; decide) (by rw [hc3]; decide) (by rw [hc3]; rfl) (by decide) ?_
    refine lv_aload_n hx hb dX8_count_64 rfl (lv_at hl 0 rfl) ?_
    refine va_get hx hb hts n8_ hown hK hP 0 rfl rfl 0 (Nat.le_of_ble_eq_true rfl) k1_ (fun _ h => h) rfl dX8_count_65 ?_
    refine lv_iload_n hx hb dX8_count_68 rfl (lv_at hl 1 rfl) ?_
    obtain ⟨hg4, hf⟩ := gd_s hf
    refine va_iald hx hb hK hP 1 0 rfl rfl hg4 dX8_count_69 ?_
    obtain rfl := Option.some.inj hf
    exact ret 70 ls _ dX8_count_70 rfl rfl
  replace hf := ie hc3 hf
  by_cases hc5 : x1 = 2
  · replace hf := it hc5 hf
    refine lv_tableIn (off := 63) (tgt := 64) hx hb dX8_count_1 (by rw [hc5]; decide) (by rw [hc5]; decide) (by rw [hc5]; rfl) (by decide) ?_
    refine lv_aload_n hx hb dX8_count_64 rfl (lv_at hl 0 rfl) ?_
    refine va_get hx hb hts n8_ hown hK hP 0 rfl rfl 0 (Nat.le_of_ble_eq_true rfl) k1_ (fun _ h => h) rfl dX8_count_65 ?_
    refine lv_iload_n hx hb dX8_count_68 rfl (lv_at hl 1 rfl) ?_
    obtain ⟨hg6, hf⟩ := gd_s hf
    refine va_iald hx hb hK hP 1 0 rfl rfl hg6 dX8_count_69 ?_
    obtain rfl := Option.some.inj hf
    exact ret 70 ls _ dX8_count_70 rfl rfl
  replace hf := ie hc5 hf
  by_cases hc7 : x1 = 3
  · replace hf := it hc7 hf
    refine lv_tableIn (off := 63) (tgt := 64) hx hb dX8_count_1 (by rw [hc7]; decide) (by rw [hc7]; decide) (by rw [hc7]; rfl) (by decide) ?_
    refine lv_aload_n hx hb dX8_count_64 rfl (lv_at hl 0 rfl) ?_
    refine va_get hx hb hts n8_ hown hK hP 0 rfl rfl 0 (Nat.le_of_ble_eq_true rfl) k1_ (fun _ h => h) rfl dX8_count_65 ?_
    refine lv_iload_n hx hb dX8_count_68 rfl (lv_at hl 1 rfl) ?_
    obtain ⟨hg8, hf⟩ := gd_s hf
    refine va_iald hx hb hK hP 1 0 rfl rfl hg8 dX8_count_69 ?_
    obtain rfl := Option.some.inj hf
    exact ret 70 ls _ dX8_count_70 rfl rfl
  replace hf := ie hc7 hf
  by_cases hc9 : x1 = 4
  · replace hf := it hc9 hf
    refine lv_tableIn (off := 63) (tgt := 64) hx hb dX8_count_1 (by rw [hc9]; decide) (by rw [hc9]; decide) (by rw [hc9]; rfl) (by decide) ?_
    refine lv_aload_n hx hb dX8_count_64 rfl (lv_at hl 0 rfl) ?_
    refine va_get hx hb hts n8_ hown hK hP 0 rfl rfl 0 (Nat.le_of_ble_eq_true rfl) k1_ (fun _ h => h) rfl dX8_count_65 ?_
    refine lv_iload_n hx hb dX8_count_68 rfl (lv_at hl 1 rfl) ?_
    obtain ⟨hg10, hf⟩ := gd_s hf
    refine va_iald hx hb hK hP 1 0 rfl rfl hg10 dX8_count_69 ?_
    obtain rfl := Option.some.inj hf
    exact ret 70 ls _ dX8_count_70 rfl rfl
  replace hf := ie hc9 hf
  by_cases hc11 : x1 = 5
  · replace hf := it hc11 hf
    refine lv_tableIn (off := 70) (tgt := 71) hx hb dX8_count_1 (by rw [hc11]; decide) (by rw [hc11]; decide) (by rw [hc11]; rfl) (by decide) ?_
    refine lv_aload_n hx hb dX8_count_71 rfl (lv_at hl 0 rfl) ?_
    obtain ⟨q12, hq12, hf⟩ := ob hf
    refine cl_RV (As := []) (rest := []) hF hP hD (c_X8_hopper b S P Hd Tr Tx told pasts runs typed spot frm reas caus ords ordr q12 hq12) (cwV 0 hts gX8_count_X8_hopper rfl rfl rfl (by decide +kernel) ⟨(Nat.le_of_ble_eq_true rfl), (Nat.le_of_ble_eq_true rfl)⟩) [0, 1, 2, 3, 4, 5, 6] rfl (by decide +kernel) (va_recv hK hP (ci := 8) (q0 := 0) rfl rfl) rfl rfl hl.1 (Nat.le_of_ble_eq_true rfl) dX8_count_72 ⟨Nat.zero_le _, Nat.zero_le _⟩ ?_
    obtain rfl := Option.some.inj hf
    exact ret 75 ls _ dX8_count_75 rfl rfl
  replace hf := ie hc11 hf
  by_cases hc13 : x1 = 6
  · replace hf := it hc13 hf
    refine lv_tableIn (off := 75) (tgt := 76) hx hb dX8_count_1 (by rw [hc13]; decide) (by rw [hc13]; decide) (by rw [hc13]; rfl) (by decide) ?_
    refine lv_aload_n hx hb dX8_count_76 rfl (lv_at hl 0 rfl) ?_
    refine lv_bipush (v := (34 : Int32)) hx hb dX8_count_77 (by decide) ?_
    refine lv_bipush (v := (35 : Int32)) hx hb dX8_count_79 (by decide) ?_
    obtain ⟨q14, hq14, hf⟩ := ob hf
    refine cl_RV (As := [.int (34 : Int32), .int (35 : Int32)]) (rest := []) hF hP hD (c_X8_amounts b (34 : Int32) (35 : Int32) S P Hd Tr Tx told pasts runs typed spot frm reas caus ords ordr q14 hq14) (cwV 2 hts gX8_count_X8_amounts rfl rfl rfl (by decide +kernel) ⟨(Nat.le_of_ble_eq_true rfl), (Nat.le_of_ble_eq_true rfl)⟩) [0, 1, 2, 3, 4, 5, 6] rfl (by decide +kernel) (va_recv hK hP (ci := 8) (q0 := 0) rfl rfl) rfl rfl hl.1 (Nat.le_of_ble_eq_true rfl) dX8_count_81 ⟨Nat.zero_le _, Nat.zero_le _⟩ ?_
    obtain rfl := Option.some.inj hf
    exact ret 84 ls _ dX8_count_84 rfl rfl
  replace hf := ie hc13 hf
  by_cases hc15 : x1 = 7
  · replace hf := it hc15 hf
    refine lv_tableIn (off := 84) (tgt := 85) hx hb dX8_count_1 (by rw [hc15]; decide) (by rw [hc15]; decide) (by rw [hc15]; rfl) (by decide) ?_
    refine lv_aload_n hx hb dX8_count_85 rfl (lv_at hl 0 rfl) ?_
    refine lv_sipush (v := (145 : Int32)) hx hb dX8_count_86 (by decide) ?_
    refine lv_sipush (v := (146 : Int32)) hx hb dX8_count_89 (by decide) ?_
    obtain ⟨q16, hq16, hf⟩ := ob hf
    refine cl_RV (As := [.int (145 : Int32), .int (146 : Int32)]) (rest := []) hF hP hD (c_X8_amounts b (145 : Int32) (146 : Int32) S P Hd Tr Tx told pasts runs typed spot frm reas caus ords ordr q16 hq16) (cwV 2 hts gX8_count_X8_amounts rfl rfl rfl (by decide +kernel) ⟨(Nat.le_of_ble_eq_true rfl), (Nat.le_of_ble_eq_true rfl)⟩) [0, 1, 2, 3, 4, 5, 6] rfl (by decide +kernel) (va_recv hK hP (ci := 8) (q0 := 0) rfl rfl) rfl rfl hl.1 (Nat.le_of_ble_eq_true rfl) dX8_count_92 ⟨Nat.zero_le _, Nat.zero_le _⟩ ?_
    obtain rfl := Option.some.inj hf
    exact ret 95 ls _ dX8_count_95 rfl rfl
  replace hf := ie hc15 hf
  by_cases hc17 : x1 = 8
  · replace hf := it hc17 hf
    refine lv_tableIn (off := 95) (tgt := 96) hx hb dX8_count_1 (by rw [hc17]; decide) (by rw [hc17]; decide) (by rw [hc17]; rfl) (by decide) ?_
    refine lv_aload_n hx hb dX8_count_96 rfl (lv_at hl 0 rfl) ?_
    refine va_get hx hb hts n8_ hown hK hP 0 rfl rfl 0 (Nat.le_of_ble_eq_true rfl) k1_ (fun _ h => h) rfl dX8_count_97 ?_
    refine lv_iconst (v := (5 : Int32)) hx hb dX8_count_100 (by decide) ?_
    refine lv_iload_n hx hb dX8_count_101 rfl (lv_at hl 1 rfl) ?_
    refine lv_iadd hx hb dX8_count_102 ?_
    refine lv_bipush (v := (8 : Int32)) hx hb dX8_count_103 (by decide) ?_
    refine lv_isub hx hb dX8_count_105 ?_
    obtain ⟨hg18, hf⟩ := gd_s hf
    refine va_iald hx hb hK hP 1 0 rfl rfl hg18 dX8_count_106 ?_
    obtain rfl := Option.some.inj hf
    exact ret 107 ls _ dX8_count_107 rfl rfl
  replace hf := ie hc17 hf
  by_cases hc19 : x1 = 9
  · replace hf := it hc19 hf
    refine lv_tableIn (off := 95) (tgt := 96) hx hb dX8_count_1 (by rw [hc19]; decide) (by rw [hc19]; decide) (by rw [hc19]; rfl) (by decide) ?_
    refine lv_aload_n hx hb dX8_count_96 rfl (lv_at hl 0 rfl) ?_
    refine va_get hx hb hts n8_ hown hK hP 0 rfl rfl 0 (Nat.le_of_ble_eq_true rfl) k1_ (fun _ h => h) rfl dX8_count_97 ?_
    refine lv_iconst (v := (5 : Int32)) hx hb dX8_count_100 (by decide) ?_
    refine lv_iload_n hx hb dX8_count_101 rfl (lv_at hl 1 rfl) ?_
    refine lv_iadd hx hb dX8_count_102 ?_
    refine lv_bipush (v := (8 : Int32)) hx hb dX8_count_103 (by decide) ?_
    refine lv_isub hx hb dX8_count_105 ?_
    obtain ⟨hg20, hf⟩ := gd_s hf
    refine va_iald hx hb hK hP 1 0 rfl rfl hg20 dX8_count_106 ?_
    obtain rfl := Option.some.inj hf
    exact ret 107 ls _ dX8_count_107 rfl rfl
  replace hf := ie hc19 hf
  by_cases hc21 : x1 = 10
  · replace hf := it hc21 hf
    refine lv_tableIn (off := 107) (tgt := 108) hx hb dX8_count_1 (by rw [hc21]; decide) (by rw [hc21]; decide) (by rw [hc21]; rfl) (by decide) ?_
    refine lv_aload_n hx hb dX8_count_108 rfl (lv_at hl 0 rfl) ?_
    refine va_get hx hb hts n8_ hown hK hP 0 rfl rfl 4 (Nat.le_of_ble_eq_true rfl) k2_ (fun _ h => h) rfl dX8_count_109 ?_
    obtain rfl := Option.some.inj hf
    exact ret 112 ls _ dX8_count_112 rfl rfl
  replace hf := ie hc21 hf
  by_cases hc22 : x1 = 11
  · replace hf := it hc22 hf
    refine lv_tableIn (off := 112) (tgt := 113) hx hb dX8_count_1 (by rw [hc22]; decide) (by rw [hc22]; decide) (by rw [hc22]; rfl) (by decide) ?_
    refine lv_aload_n hx hb dX8_count_113 rfl (lv_at hl 0 rfl) ?_
    refine va_get hx hb hts n8_ hown hK hP 0 rfl rfl 7 (Nat.le_of_ble_eq_true rfl) k3_ (fun _ h => h) rfl dX8_count_114 ?_
    obtain rfl := Option.some.inj hf
    exact ret 117 ls _ dX8_count_117 rfl rfl
  replace hf := ie hc22 hf
  refine lv_tableOut (tgt := 118) hx hb dX8_count_1 (by have q0 := gt_ne hc1 (k := 0) rfl; have q1 := gt_ne hc3 (k := 1) rfl; have q2 := gt_ne hc5 (k := 2) rfl; have q3 := gt_ne hc7 (k := 3) rfl; have q4 := gt_ne hc9 (k := 4) rfl; have q5 := gt_ne hc11 (k := 5) rfl; have q6 := gt_ne hc13 (k := 6) rfl; have q7 := gt_ne hc15 (k := 7) rfl; have q8 := gt_ne hc17 (k := 8) rfl; have q9 := gt_ne hc19 (k := 9) rfl; have q10 := gt_ne hc21 (k := 10) rfl; have q11 := gt_ne hc22 (k := 11) rfl; omega) (by decide) ?_
  refine lv_iload_n hx hb dX8_count_118 rfl (lv_at hl 1 rfl) ?_
  refine lv_bipush (v := (20 : Int32)) hx hb dX8_count_119 (by decide) ?_
  refine lv_bipush (v := (25 : Int32)) hx hb dX8_count_121 (by decide) ?_
  obtain ⟨q23, hq23, hf⟩ := ob hf
  refine cl_RS (As := [.int x1, .int (20 : Int32), .int (25 : Int32)]) (rest := []) hF hP hD (c_X8_in x1 (20 : Int32) (25 : Int32) q23 hq23) (va_cwS 3 hts gX8_count_X8_in rfl rfl rfl (by decide +kernel) ⟨(Nat.le_of_ble_eq_true rfl), (Nat.le_of_ble_eq_true rfl)⟩) [] rfl (by decide +kernel) rfl rfl hl.1 (Nat.le_of_ble_eq_true rfl) dX8_count_123 ⟨Nat.zero_le _, Nat.zero_le _⟩ ?_
  refine lv_if_eq (tgt := 144) hx hb dX8_count_126 (by decide) (fun hc24 => ?_) (fun hc24 => ?_)
  · replace hf := it hc24 hf
    refine lv_ldc hx hb hown k4_ dX8_count_144 ?_
    obtain rfl := Option.some.inj hf
    exact ret 146 ls _ dX8_count_146 rfl rfl
  · replace hf := ie hc24 hf
    refine lv_aload_n hx hb dX8_count_129 rfl (lv_at hl 0 rfl) ?_
    refine va_get hx hb hts n8_ hown hK hP 0 rfl rfl 0 (Nat.le_of_ble_eq_true rfl) k1_ (fun _ h => h) rfl dX8_count_130 ?_
    refine lv_bipush (v := (7 : Int32)) hx hb dX8_count_133 (by decide) ?_
    refine lv_iload_n hx hb dX8_count_135 rfl (lv_at hl 1 rfl) ?_
    refine lv_iadd hx hb dX8_count_136 ?_
    refine lv_bipush (v := (20 : Int32)) hx hb dX8_count_137 (by decide) ?_
    refine lv_isub hx hb dX8_count_139 ?_
    obtain ⟨hg25, hf⟩ := gd_s hf
    refine va_iald hx hb hK hP 1 0 rfl rfl hg25 dX8_count_140 ?_
    refine lv_goto (tgt := 146) hx hb dX8_count_141 (by decide) ?_
    obtain rfl := Option.some.inj hf
    exact ret 146 ls _ dX8_count_146 rfl rfl
end
