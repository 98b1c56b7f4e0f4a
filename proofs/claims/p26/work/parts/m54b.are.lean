section
variable {l : Launch} {D : va_G} {cI cC : ClassId}

abbrev rmL_arePortions : Room := { frames := 5, cells := 0, slots := 0, locals := 89 }
set_option maxHeartbeats 4000000 in
set_option maxRecDepth 100000 in
theorem c_L_arePortions {w0 w : va_W} (bg : Nat) (bc : Nat) (t0 : Nat) (x2 : Int32) (vg : Nat → Int32) (vc : Nat → Int32) (og : Sp) (hT : OB cI cC t0 w0 og w) (R : Int32) (hf : f_L_arePortions x2 vg vc og = some R) : RdI l yL_arePortions wsL_arePortions rmL_arePortions D cI cC ([(bg, .inl (cI, 15, .inl vg)), (bc, .inl (cI, 64, .inl vc))] ++ w) [.ref t0, .ref bg, .int x2, .ref bc] R := by
  refine en_R (cc := cL_arePortions) (n := 7) (by decide) rfl (Nat.le_of_ble_eq_true rfl) ?_
  intro p e s m args below meth c Q AA ls hx hb hml hown hts hK hN hP hD hl ret
  have hown : s.vm.findClass RL = some m.cls := hown
  have hF : FX p m c cL_arePortions 7 s args wsL_arePortions RL D cI cC := ⟨⟨hx, hb, hml, hown, hts⟩, hK, hN⟩
  have hl : lv_has ls 7 [(0, .ref t0), (1, .ref bg), (2, .int x2), (3, .ref bc)] := hl
  have k1_ := hts (.constant RL 93 (-1000004)) (List.mem_of_getElem? (i := 1) rfl)
  have k2_ := hts (.constant RL 94 (-1000001)) (List.mem_of_getElem? (i := 2) rfl)
  have J129 : ∀ (y2_129 : Int32) (y4_129 : Int32), ∀ ls : Array Slot, lv_has ls 7 [(0, .ref t0), (2, .int y2_129), (3, .ref bc), (4, .int y4_129)] → f_L_arePortions_J129 vg vc og y2_129 y4_129 = some R → W p l e rmL_arePortions s m args below meth c s.heap [] 0 0 Q (F0 m 129 ls []) := by
    intro y2_129 y4_129 ls hl hf
    rw [f_L_arePortions_J129] at hf
    refine lv_iload hx hb dL_arePortions_129 (lv_at hl 3 rfl) ?_
    refine lv_if_eq (tgt := 179) hx hb dL_arePortions_131 (by decide) (fun hc16 => ?_) (fun hc16 => ?_)
    · replace hf := it hc16 hf
      refine lv_iconst (v := (0 : Int32)) hx hb dL_arePortions_179 (by decide) ?_
      obtain rfl := Option.some.inj hf
      exact ret 180 ls _ dL_arePortions_180 (by decide) rfl
    · replace hf := ie hc16 hf
      refine lv_aload_n hx hb dL_arePortions_134 rfl (lv_at hl 0 rfl) ?_
      refine lv_iload_n hx hb dL_arePortions_135 rfl (lv_at hl 1 rfl) ?_
      refine lv_aload_n hx hb dL_arePortions_136 rfl (lv_at hl 2 rfl) ?_
      refine lv_iconst (v := (0 : Int32)) hx hb dL_arePortions_137 (by decide) ?_
      refine va_iald hx hb hK hP 1 0 rfl rfl (show ¬ ((0 : Int32) < 0 ∨ 64 ≤ (0 : Int32).toNatClampNeg) by decide) dL_arePortions_138 ?_
      refine lv_iconst (v := (0 : Int32)) hx hb dL_arePortions_139 (by decide) ?_
      obtain ⟨q17, hq17, hf⟩ := ob hf
      refine cl_RO (As := [.int y2_129, .int (vc (0 : Int32).toNatClampNeg), .int (0 : Int32)]) (rest := []) hF hP hD hT (oq_portionOf hT y2_129 (vc (0 : Int32).toNatClampNeg) (0 : Int32) q17 hq17) (cwV 3 hts gL_arePortions_X7_portionOf rfl rfl rfl (by decide +kernel) ⟨(Nat.le_of_ble_eq_true rfl), (Nat.le_of_ble_eq_true rfl)⟩) rfl rfl hl.1 (Nat.le_of_ble_eq_true rfl) dL_arePortions_140 ⟨Nat.zero_le _, Nat.zero_le _⟩ ?_
      refine lv_ldc hx hb hown k1_ dL_arePortions_143 ?_
      refine lv_icmp_ne (tgt := 179) hx hb dL_arePortions_145 (by decide) (fun hc18 => ?_) (fun hc18 => ?_)
      · replace hf := ie hc18 hf
        refine lv_iconst (v := (0 : Int32)) hx hb dL_arePortions_179 (by decide) ?_
        obtain rfl := Option.some.inj hf
        exact ret 180 ls _ dL_arePortions_180 (by decide) rfl
      · replace hf := it hc18 hf
        refine lv_aload_n hx hb dL_arePortions_148 rfl (lv_at hl 0 rfl) ?_
        refine lv_iload_n hx hb dL_arePortions_149 rfl (lv_at hl 1 rfl) ?_
        refine lv_iconst (v := (0 : Int32)) hx hb dL_arePortions_150 (by decide) ?_
        refine lv_iconst (v := (5 : Int32)) hx hb dL_arePortions_151 (by decide) ?_
        obtain ⟨q19, hq19, hf⟩ := ob hf
        refine cl_RO (As := [.int y2_129, .int (0 : Int32), .int (5 : Int32)]) (rest := []) hF hP hD hT (oq_portionOf hT y2_129 (0 : Int32) (5 : Int32) q19 hq19) (cwV 3 hts gL_arePortions_X7_portionOf rfl rfl rfl (by decide +kernel) ⟨(Nat.le_of_ble_eq_true rfl), (Nat.le_of_ble_eq_true rfl)⟩) rfl rfl hl.1 (Nat.le_of_ble_eq_true rfl) dL_arePortions_152 ⟨Nat.zero_le _, Nat.zero_le _⟩ ?_
        refine lv_ldc hx hb hown k2_ dL_arePortions_155 ?_
        refine lv_icmp_ne (tgt := 179) hx hb dL_arePortions_157 (by decide) (fun hc20 => ?_) (fun hc20 => ?_)
        · replace hf := ie hc20 hf
          refine lv_iconst (v := (0 : Int32)) hx hb dL_arePortions_179 (by decide) ?_
          obtain rfl := Option.some.inj hf
          exact ret 180 ls _ dL_arePortions_180 (by decide) rfl
        · replace hf := it hc20 hf
          refine lv_aload_n hx hb dL_arePortions_160 rfl (lv_at hl 0 rfl) ?_
          refine lv_bipush (v := (6 : Int32)) hx hb dL_arePortions_161 (by decide) ?_
          refine lv_iload_n hx hb dL_arePortions_163 rfl (lv_at hl 1 rfl) ?_
          refine lv_iadd hx hb dL_arePortions_164 ?_
          obtain ⟨q21, hq21, hf⟩ := ob hf
          refine cl_RO (As := [.int ((6 : Int32) + y2_129)]) (rest := []) hF hP hD hT (oq_count hT ((6 : Int32) + y2_129) q21 hq21) (cwV 1 hts gL_arePortions_X7_count rfl rfl rfl (by decide +kernel) ⟨(Nat.le_of_ble_eq_true rfl), (Nat.le_of_ble_eq_true rfl)⟩) rfl rfl hl.1 (Nat.le_of_ble_eq_true rfl) dL_arePortions_165 ⟨Nat.zero_le _, Nat.zero_le _⟩ ?_
          refine lv_aload_n hx hb dL_arePortions_168 rfl (lv_at hl 2 rfl) ?_
          obtain ⟨q22, hq22, hf⟩ := ob hf
          refine cl_RSL (X0 := [(bg, .inl (cI, 15, .inl vg)), (bc, .inl (cI, 64, .inl vc))]) (As := [.ref bc]) (rest := [.int q21]) hF hP hD (c_L_amounts bc vc q22 hq22) (va_cwS 1 hts gL_arePortions_L_amounts rfl rfl rfl (by decide +kernel) ⟨(Nat.le_of_ble_eq_true rfl), (Nat.le_of_ble_eq_true rfl)⟩) [1] rfl (by decide +kernel) rfl rfl hl.1 (Nat.le_of_ble_eq_true rfl) dL_arePortions_169 ⟨Nat.zero_le _, Nat.zero_le _⟩ ?_
          refine lv_icmp_ne (tgt := 179) hx hb dL_arePortions_172 (by decide) (fun hc23 => ?_) (fun hc23 => ?_)
          · replace hf := ie hc23 hf
            refine lv_iconst (v := (0 : Int32)) hx hb dL_arePortions_179 (by decide) ?_
            obtain rfl := Option.some.inj hf
            exact ret 180 ls _ dL_arePortions_180 (by decide) rfl
          · replace hf := it hc23 hf
            refine lv_iconst (v := (1 : Int32)) hx hb dL_arePortions_175 (by decide) ?_
            refine lv_goto (tgt := 180) hx hb dL_arePortions_176 (by decide) ?_
            obtain rfl := Option.some.inj hf
            exact ret 180 ls _ dL_arePortions_180 (by decide) rfl
  have L6 : ∀ n6 : Nat, ∀ (y2_6 : Int32) (y4_6 : Int32) (y5_6 : Int32), ∀ ls : Array Slot, lv_has ls 7 [(0, .ref t0), (1, .ref bg), (2, .int y2_6), (3, .ref bc), (4, .int y4_6), (5, .int y5_6)] → f_L_arePortions_L6 vg vc og y2_6 n6 y4_6 y5_6 = some R → W p l e rmL_arePortions s m args below meth c s.heap [] 0 0 Q (F0 m 6 ls []) := by
    intro n6
    induction n6 with
    | zero => intro y2_6 y4_6 y5_6 ls hl hf; rw [f_L_arePortions_L6] at hf; cases hf
    | succ n6 IH6 =>
      intro y2_6 y4_6 y5_6 ls hl hf
      have J121 : ∀ (y5_121 : Int32) (z0_121 : Int32), ∀ ls : Array Slot, lv_has ls 7 [(0, .ref t0), (1, .ref bg), (2, .int y2_6), (3, .ref bc), (5, .int y5_121)] → f_L_arePortions_J121 (f_L_arePortions_L6 vg vc og y2_6 n6) vg vc og y2_6 y5_121 z0_121 = some R → W p l e rmL_arePortions s m args below meth c s.heap [] 0 0 Q (F0 m 121 ls [.int z0_121]) := by
        intro y5_121 z0_121 ls hl hf
        rw [f_L_arePortions_J121] at hf
        refine lv_istore (lv' := [(4, .int z0_121), (0, .ref t0), (1, .ref bg), (2, .int y2_6), (3, .ref bc), (5, .int y5_121)]) hx hb dL_arePortions_121 hl (by decide) rfl (fun ls hl => ?_)
        obtain ⟨v24, ev24⟩ : ∃ z : Int32, z = y5_121 + (1 : Int32) := ⟨_, rfl⟩
        replace hf := lt_e ev24 hf
        refine lv_iinc (v := v24) (lv' := [(5, .int v24), (4, .int z0_121), (0, .ref t0), (1, .ref bg), (2, .int y2_6), (3, .ref bc)]) hx hb dL_arePortions_123 hl (k := 5) rfl (by rw [ev24]; rfl) (by decide) rfl (fun ls hl => ?_)
        refine lv_goto (tgt := 6) hx hb dL_arePortions_126 (by decide) ?_
        exact IH6 y2_6 z0_121 v24 ls (lv_sub hl [2, 3, 4, 5, 1, 0] rfl) hf
      have J120 : ∀ (y5_120 : Int32), ∀ ls : Array Slot, lv_has ls 7 [(0, .ref t0), (1, .ref bg), (2, .int y2_6), (3, .ref bc), (5, .int y5_120)] → f_L_arePortions_J120 (f_L_arePortions_L6 vg vc og y2_6 n6) vg vc og y2_6 y5_120 = some R → W p l e rmL_arePortions s m args below meth c s.heap [] 0 0 Q (F0 m 120 ls []) := by
        intro y5_120 ls hl hf
        rw [f_L_arePortions_J120] at hf
        refine lv_iconst (v := (0 : Int32)) hx hb dL_arePortions_120 (by decide) ?_
        exact J121 y5_120 (0 : Int32) ls (lv_sub hl [0, 1, 2, 3, 4] rfl) hf
      rw [f_L_arePortions_L6] at hf
      refine lv_iload hx hb dL_arePortions_6 (lv_at hl 5 rfl) ?_
      refine lv_aload_n hx hb dL_arePortions_8 rfl (lv_at hl 3 rfl) ?_
      refine lv_iconst (v := (0 : Int32)) hx hb dL_arePortions_9 (by decide) ?_
      refine va_iald hx hb hK hP 1 0 rfl rfl (show ¬ ((0 : Int32) < 0 ∨ 64 ≤ (0 : Int32).toNatClampNeg) by decide) dL_arePortions_10 ?_
      refine lv_icmp_ge (tgt := 129) hx hb dL_arePortions_11 (by decide) (fun hc1 => ?_) (fun hc1 => ?_)
      · replace hf := it hc1 hf
        exact J129 y2_6 y4_6 ls (lv_sub hl [0, 2, 3, 4] rfl) hf
      · replace hf := ie hc1 hf
        refine lv_iload hx hb dL_arePortions_14 (lv_at hl 4 rfl) ?_
        refine lv_if_eq (tgt := 129) hx hb dL_arePortions_16 (by decide) (fun hc2 => ?_) (fun hc2 => ?_)
        · replace hf := it hc2 hf
          exact J129 y2_6 y4_6 ls (lv_sub hl [0, 2, 3, 4] rfl) hf
        · replace hf := ie hc2 hf
          refine lv_aload_n hx hb dL_arePortions_19 rfl (lv_at hl 3 rfl) ?_
          refine lv_iload hx hb dL_arePortions_20 (lv_at hl 5 rfl) ?_
          refine lv_iconst (v := (1 : Int32)) hx hb dL_arePortions_22 (by decide) ?_
          refine lv_iadd hx hb dL_arePortions_23 ?_
          obtain ⟨hg3, hf⟩ := gd_s hf
          refine va_iald hx hb hK hP 1 0 rfl rfl hg3 dL_arePortions_24 ?_
          refine lv_topi (fun v4 ev4 => ?_)
          replace hf := lt_e ev4 hf
          refine lv_istore (lv' := [(6, .int v4), (0, .ref t0), (1, .ref bg), (2, .int y2_6), (3, .ref bc), (4, .int y4_6), (5, .int y5_6)]) hx hb dL_arePortions_25 hl (by decide) rfl (fun ls hl => ?_)
          refine lv_aload_n hx hb dL_arePortions_27 rfl (lv_at hl 1 rfl) ?_
          refine lv_iload_n hx hb dL_arePortions_28 rfl (lv_at hl 3 rfl) ?_
          refine lv_iload hx hb dL_arePortions_29 (lv_at hl 6 rfl) ?_
          refine lv_iconst (v := (0 : Int32)) hx hb dL_arePortions_31 (by decide) ?_
          obtain ⟨q5, hq5, hf⟩ := ob hf
          refine cl_RO (As := [.int y2_6, .int y5_6, .int (0 : Int32)]) (rest := []) hF hP hD hT (oq_portionOf hT y2_6 y5_6 (0 : Int32) q5 hq5) (cwV 3 hts gL_arePortions_X7_portionOf rfl rfl rfl (by decide +kernel) ⟨(Nat.le_of_ble_eq_true rfl), (Nat.le_of_ble_eq_true rfl)⟩) rfl rfl hl.1 (Nat.le_of_ble_eq_true rfl) dL_arePortions_32 ⟨Nat.zero_le _, Nat.zero_le _⟩ ?_
          refine lv_iload hx hb dL_arePortions_35 (lv_at hl 0 rfl) ?_
          refine lv_sipush (v := (1000 : Int32)) hx hb dL_arePortions_37 (by decide) ?_
          refine lv_irem hx hb dL_arePortions_40 (by decide) ?_
          refine lv_icmp_ne (tgt := 120) hx hb dL_arePortions_41 (by decide) (fun hc6 => ?_) (fun hc6 => ?_)
          · replace hf := ie hc6 hf
            exact J120 y5_6 ls (lv_sub hl [1, 2, 3, 4, 6] rfl) hf
          · replace hf := it hc6 hf
            refine lv_aload_n hx hb dL_arePortions_44 rfl (lv_at hl 1 rfl) ?_
            refine lv_iload_n hx hb dL_arePortions_45 rfl (lv_at hl 3 rfl) ?_
            refine lv_iload hx hb dL_arePortions_46 (lv_at hl 6 rfl) ?_
            refine lv_iconst (v := (1 : Int32)) hx hb dL_arePortions_48 (by decide) ?_
            obtain ⟨q7, hq7, hf⟩ := ob hf
            refine cl_RO (As := [.int y2_6, .int y5_6, .int (1 : Int32)]) (rest := []) hF hP hD hT (oq_portionOf hT y2_6 y5_6 (1 : Int32) q7 hq7) (cwV 3 hts gL_arePortions_X7_portionOf rfl rfl rfl (by decide +kernel) ⟨(Nat.le_of_ble_eq_true rfl), (Nat.le_of_ble_eq_true rfl)⟩) rfl rfl hl.1 (Nat.le_of_ble_eq_true rfl) dL_arePortions_49 ⟨Nat.zero_le _, Nat.zero_le _⟩ ?_
            refine lv_iload hx hb dL_arePortions_52 (lv_at hl 0 rfl) ?_
            refine lv_sipush (v := (1000 : Int32)) hx hb dL_arePortions_54 (by decide) ?_
            refine lv_idiv hx hb dL_arePortions_57 (by decide) ?_
            refine lv_iconst (v := (2 : Int32)) hx hb dL_arePortions_58 (by decide) ?_
            refine lv_irem hx hb dL_arePortions_59 (by decide) ?_
            refine lv_icmp_ne (tgt := 120) hx hb dL_arePortions_60 (by decide) (fun hc8 => ?_) (fun hc8 => ?_)
            · replace hf := ie hc8 hf
              exact J120 y5_6 ls (lv_sub hl [1, 2, 3, 4, 6] rfl) hf
            · replace hf := it hc8 hf
              refine lv_aload_n hx hb dL_arePortions_63 rfl (lv_at hl 1 rfl) ?_
              refine lv_iload_n hx hb dL_arePortions_64 rfl (lv_at hl 3 rfl) ?_
              refine lv_iload hx hb dL_arePortions_65 (lv_at hl 6 rfl) ?_
              refine lv_iconst (v := (2 : Int32)) hx hb dL_arePortions_67 (by decide) ?_
              obtain ⟨q9, hq9, hf⟩ := ob hf
              refine cl_RO (As := [.int y2_6, .int y5_6, .int (2 : Int32)]) (rest := []) hF hP hD hT (oq_portionOf hT y2_6 y5_6 (2 : Int32) q9 hq9) (cwV 3 hts gL_arePortions_X7_portionOf rfl rfl rfl (by decide +kernel) ⟨(Nat.le_of_ble_eq_true rfl), (Nat.le_of_ble_eq_true rfl)⟩) rfl rfl hl.1 (Nat.le_of_ble_eq_true rfl) dL_arePortions_68 ⟨Nat.zero_le _, Nat.zero_le _⟩ ?_
              refine lv_iload hx hb dL_arePortions_71 (lv_at hl 0 rfl) ?_
              refine lv_sipush (v := (2000 : Int32)) hx hb dL_arePortions_73 (by decide) ?_
              refine lv_idiv hx hb dL_arePortions_76 (by decide) ?_
              refine lv_iconst (v := (2 : Int32)) hx hb dL_arePortions_77 (by decide) ?_
              refine lv_irem hx hb dL_arePortions_78 (by decide) ?_
              refine lv_icmp_ne (tgt := 120) hx hb dL_arePortions_79 (by decide) (fun hc10 => ?_) (fun hc10 => ?_)
              · replace hf := ie hc10 hf
                exact J120 y5_6 ls (lv_sub hl [1, 2, 3, 4, 6] rfl) hf
              · replace hf := it hc10 hf
                refine lv_aload_n hx hb dL_arePortions_82 rfl (lv_at hl 1 rfl) ?_
                refine lv_iload_n hx hb dL_arePortions_83 rfl (lv_at hl 3 rfl) ?_
                refine lv_iload hx hb dL_arePortions_84 (lv_at hl 6 rfl) ?_
                refine lv_iconst (v := (3 : Int32)) hx hb dL_arePortions_86 (by decide) ?_
                obtain ⟨q11, hq11, hf⟩ := ob hf
                refine cl_RO (As := [.int y2_6, .int y5_6, .int (3 : Int32)]) (rest := []) hF hP hD hT (oq_portionOf hT y2_6 y5_6 (3 : Int32) q11 hq11) (cwV 3 hts gL_arePortions_X7_portionOf rfl rfl rfl (by decide +kernel) ⟨(Nat.le_of_ble_eq_true rfl), (Nat.le_of_ble_eq_true rfl)⟩) rfl rfl hl.1 (Nat.le_of_ble_eq_true rfl) dL_arePortions_87 ⟨Nat.zero_le _, Nat.zero_le _⟩ ?_
                refine lv_iload hx hb dL_arePortions_90 (lv_at hl 0 rfl) ?_
                refine lv_sipush (v := (4000 : Int32)) hx hb dL_arePortions_92 (by decide) ?_
                refine lv_idiv hx hb dL_arePortions_95 (by decide) ?_
                refine lv_icmp_ne (tgt := 120) hx hb dL_arePortions_96 (by decide) (fun hc12 => ?_) (fun hc12 => ?_)
                · replace hf := ie hc12 hf
                  exact J120 y5_6 ls (lv_sub hl [1, 2, 3, 4, 6] rfl) hf
                · replace hf := it hc12 hf
                  refine lv_aload_n hx hb dL_arePortions_99 rfl (lv_at hl 1 rfl) ?_
                  refine lv_iload_n hx hb dL_arePortions_100 rfl (lv_at hl 3 rfl) ?_
                  refine lv_iload hx hb dL_arePortions_101 (lv_at hl 6 rfl) ?_
                  refine lv_iconst (v := (4 : Int32)) hx hb dL_arePortions_103 (by decide) ?_
                  obtain ⟨q13, hq13, hf⟩ := ob hf
                  refine cl_RO (As := [.int y2_6, .int y5_6, .int (4 : Int32)]) (rest := []) hF hP hD hT (oq_portionOf hT y2_6 y5_6 (4 : Int32) q13 hq13) (cwV 3 hts gL_arePortions_X7_portionOf rfl rfl rfl (by decide +kernel) ⟨(Nat.le_of_ble_eq_true rfl), (Nat.le_of_ble_eq_true rfl)⟩) rfl rfl hl.1 (Nat.le_of_ble_eq_true rfl) dL_arePortions_104 ⟨Nat.zero_le _, Nat.zero_le _⟩ ?_
                  refine lv_aload_n hx hb dL_arePortions_107 rfl (lv_at hl 2 rfl) ?_
                  refine lv_iload hx hb dL_arePortions_108 (lv_at hl 0 rfl) ?_
                  obtain ⟨q14, hq14, hf⟩ := ob hf
                  refine cl_RSL (X0 := [(bg, .inl (cI, 15, .inl vg)), (bc, .inl (cI, 64, .inl vc))]) (As := [.ref bg, .int v4]) (rest := [.int q13]) hF hP hD (c_L_flow bg v4 vg q14 hq14) (va_cwS 2 hts gL_arePortions_L_flow rfl rfl rfl (by decide +kernel) ⟨(Nat.le_of_ble_eq_true rfl), (Nat.le_of_ble_eq_true rfl)⟩) [0] rfl (by decide +kernel) rfl rfl hl.1 (Nat.le_of_ble_eq_true rfl) dL_arePortions_110 ⟨Nat.zero_le _, Nat.zero_le _⟩ ?_
                  refine lv_icmp_ne (tgt := 120) hx hb dL_arePortions_113 (by decide) (fun hc15 => ?_) (fun hc15 => ?_)
                  · replace hf := ie hc15 hf
                    exact J120 y5_6 ls (lv_sub hl [1, 2, 3, 4, 6] rfl) hf
                  · replace hf := it hc15 hf
                    refine lv_iconst (v := (1 : Int32)) hx hb dL_arePortions_116 (by decide) ?_
                    refine lv_goto (tgt := 121) hx hb dL_arePortions_117 (by decide) ?_
                    exact J121 y5_6 (1 : Int32) ls (lv_sub hl [1, 2, 3, 4, 6] rfl) hf
  rw [f_L_arePortions] at hf
  refine lv_iconst (v := (1 : Int32)) hx hb dL_arePortions_0 (by decide) ?_
  refine lv_istore (lv' := [(4, .int (1 : Int32)), (0, .ref t0), (1, .ref bg), (2, .int x2), (3, .ref bc)]) hx hb dL_arePortions_1 hl (by decide) rfl (fun ls hl => ?_)
  refine lv_iconst (v := (0 : Int32)) hx hb dL_arePortions_3 (by decide) ?_
  refine lv_istore (lv' := [(5, .int (0 : Int32)), (4, .int (1 : Int32)), (0, .ref t0), (1, .ref bg), (2, .int x2), (3, .ref bc)]) hx hb dL_arePortions_4 hl (by decide) rfl (fun ls hl => ?_)
  exact L6 FU x2 (1 : Int32) (0 : Int32) ls (lv_sub hl [2, 3, 4, 5, 1, 0] rfl) hf
end
