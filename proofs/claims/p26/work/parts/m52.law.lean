section
variable {l : Launch} {D : va_G} {cI cC : ClassId}

abbrev rmL_cell : Room := { frames := 1, cells := 0, slots := 0, locals := 0 }
set_option maxHeartbeats 4000000 in
set_option maxRecDepth 100000 in
theorem c_L_cell (bs : Nat) (N : Nat) (x1 : Int32) (vs : Nat → Int32) (R : Int32) (hf : f_L_cell N x1 vs = some R) : RdI l yL_cell wsL_cell rmL_cell D cI cC ([(bs, .inl (cI, N, .inl vs))] : va_W) [.ref bs, .int x1] R := by
  refine en_R (cc := cL_cell) (n := 2) (by decide) rfl (Nat.le_of_ble_eq_true rfl) ?_
  intro p e s m args below meth c Q AA ls hx hb hml hown hts hK hN hP hD hl ret
  have hown : s.vm.findClass RL = some m.cls := hown
  have hF : FX p m c cL_cell 2 s args wsL_cell RL D cI cC := ⟨⟨hx, hb, hml, hown, hts⟩, hK, hN⟩
  have hl : lv_has ls 2 [(0, .ref bs), (1, .int x1)] := hl
  have k1_ := hts (.constant RL 7 (40503)) (List.mem_of_getElem? (i := 1) rfl)
  rw [f_L_cell] at hf
  refine lv_iload_n hx hb dL_cell_0 rfl (lv_at hl 1 rfl) ?_
  refine lv_aload_n hx hb dL_cell_1 rfl (lv_at hl 0 rfl) ?_
  refine va_alen hx hb hK hP 0 0 rfl rfl (v := (nI N)) rfl dL_cell_2 ?_
  refine lv_icmp_ge (tgt := 12) hx hb dL_cell_3 (by decide) (fun hc1 => ?_) (fun hc1 => ?_)
  · replace hf := it hc1 hf
    refine lv_ldc hx hb hown k1_ dL_cell_12 ?_
    refine lv_iload_n hx hb dL_cell_14 rfl (lv_at hl 1 rfl) ?_
    refine lv_iconst (v := (3 : Int32)) hx hb dL_cell_15 (by decide) ?_
    refine lv_iadd hx hb dL_cell_16 ?_
    refine lv_imul hx hb dL_cell_17 ?_
    obtain rfl := Option.some.inj hf
    exact ret 18 ls _ dL_cell_18 rfl rfl
  · replace hf := ie hc1 hf
    refine lv_aload_n hx hb dL_cell_6 rfl (lv_at hl 0 rfl) ?_
    refine lv_iload_n hx hb dL_cell_7 rfl (lv_at hl 1 rfl) ?_
    obtain ⟨hg2, hf⟩ := gd_s hf
    refine va_iald hx hb hK hP 0 0 rfl rfl hg2 dL_cell_8 ?_
    refine lv_goto (tgt := 18) hx hb dL_cell_9 (by decide) ?_
    obtain rfl := Option.some.inj hf
    exact ret 18 ls _ dL_cell_18 rfl rfl
abbrev rmL_low : Room := { frames := 1, cells := 0, slots := 0, locals := 0 }
set_option maxHeartbeats 4000000 in
set_option maxRecDepth 100000 in
theorem c_L_low (x0 : Int32) (x1 : Int32) (R : Int32) (hf : f_L_low x0 x1 = some R) : RdI l yL_low wsL_low rmL_low D cI cC ([] : va_W) [.int x0, .int x1] R := by
  refine en_R (cc := cL_low) (n := 2) (by decide) rfl (Nat.le_of_ble_eq_true rfl) ?_
  intro p e s m args below meth c Q AA ls hx hb hml hown hts hK hN hP hD hl ret
  have hown : s.vm.findClass RL = some m.cls := hown
  have hF : FX p m c cL_low 2 s args wsL_low RL D cI cC := ⟨⟨hx, hb, hml, hown, hts⟩, hK, hN⟩
  have hl : lv_has ls 2 [(0, .int x0), (1, .int x1)] := hl
  have k1_ := hts (.constant RL 8 (2147483647)) (List.mem_of_getElem? (i := 1) rfl)
  rw [f_L_low] at hf
  refine lv_iload_n hx hb dL_low_0 rfl (lv_at hl 0 rfl) ?_
  refine lv_ldc hx hb hown k1_ dL_low_1 ?_
  refine lv_iand hx hb dL_low_3 ?_
  refine lv_iload_n hx hb dL_low_4 rfl (lv_at hl 1 rfl) ?_
  obtain ⟨hg1, hf⟩ := gd_s hf
  refine lv_irem hx hb dL_low_5 hg1 ?_
  obtain rfl := Option.some.inj hf
  exact ret 6 ls _ dL_low_6 rfl rfl
abbrev rmL_gap : Room := { frames := 1, cells := 0, slots := 0, locals := 0 }
set_option maxHeartbeats 4000000 in
set_option maxRecDepth 100000 in
theorem c_L_gap (x0 : Int32) (x1 : Int32) (R : Int32) (hf : f_L_gap x0 x1 = some R) : RdI l yL_gap wsL_gap rmL_gap D cI cC ([] : va_W) [.int x0, .int x1] R := by
  refine en_R (cc := cL_gap) (n := 2) (by decide) rfl (Nat.le_of_ble_eq_true rfl) ?_
  intro p e s m args below meth c Q AA ls hx hb hml hown hts hK hN hP hD hl ret
  have hown : s.vm.findClass RL = some m.cls := hown
  have hF : FX p m c cL_gap 2 s args wsL_gap RL D cI cC := ⟨⟨hx, hb, hml, hown, hts⟩, hK, hN⟩
  have hl : lv_has ls 2 [(0, .int x0), (1, .int x1)] := hl
  rw [f_L_gap] at hf
  refine lv_bipush (v := (10 : Int32)) hx hb dL_gap_0 (by decide) ?_
  refine lv_iload_n hx hb dL_gap_2 rfl (lv_at hl 0 rfl) ?_
  refine lv_imul hx hb dL_gap_3 ?_
  refine lv_iload_n hx hb dL_gap_4 rfl (lv_at hl 1 rfl) ?_
  refine lv_iconst (v := (5 : Int32)) hx hb dL_gap_5 (by decide) ?_
  refine lv_idiv hx hb dL_gap_6 (by decide) ?_
  refine lv_isub hx hb dL_gap_7 ?_
  refine lv_bipush (v := (10 : Int32)) hx hb dL_gap_8 (by decide) ?_
  refine lv_icmp_le (tgt := 24) hx hb dL_gap_10 (by decide) (fun hc1 => ?_) (fun hc1 => ?_)
  · replace hf := it hc1 hf
    refine lv_bipush (v := (10 : Int32)) hx hb dL_gap_24 (by decide) ?_
    obtain rfl := Option.some.inj hf
    exact ret 26 ls _ dL_gap_26 rfl rfl
  · replace hf := ie hc1 hf
    refine lv_bipush (v := (10 : Int32)) hx hb dL_gap_13 (by decide) ?_
    refine lv_iload_n hx hb dL_gap_15 rfl (lv_at hl 0 rfl) ?_
    refine lv_imul hx hb dL_gap_16 ?_
    refine lv_iload_n hx hb dL_gap_17 rfl (lv_at hl 1 rfl) ?_
    refine lv_iconst (v := (5 : Int32)) hx hb dL_gap_18 (by decide) ?_
    refine lv_idiv hx hb dL_gap_19 (by decide) ?_
    refine lv_isub hx hb dL_gap_20 ?_
    refine lv_goto (tgt := 26) hx hb dL_gap_21 (by decide) ?_
    obtain rfl := Option.some.inj hf
    exact ret 26 ls _ dL_gap_26 rfl rfl
abbrev rmL_flow : Room := { frames := 1, cells := 0, slots := 0, locals := 0 }
set_option maxHeartbeats 4000000 in
set_option maxRecDepth 100000 in
theorem c_L_flow (bg : Nat) (x1 : Int32) (vg : Nat → Int32) (R : Int32) (hf : f_L_flow x1 vg = some R) : RdI l yL_flow wsL_flow rmL_flow D cI cC ([(bg, .inl (cI, 15, .inl vg))] : va_W) [.ref bg, .int x1] R := by
  refine en_R (cc := cL_flow) (n := 2) (by decide) rfl (Nat.le_of_ble_eq_true rfl) ?_
  intro p e s m args below meth c Q AA ls hx hb hml hown hts hK hN hP hD hl ret
  have hown : s.vm.findClass RL = some m.cls := hown
  have hF : FX p m c cL_flow 2 s args wsL_flow RL D cI cC := ⟨⟨hx, hb, hml, hown, hts⟩, hK, hN⟩
  have hl : lv_has ls 2 [(0, .ref bg), (1, .int x1)] := hl
  rw [f_L_flow] at hf
  refine lv_sipush (v := (1000 : Int32)) hx hb dL_flow_0 (by decide) ?_
  refine lv_aload_n hx hb dL_flow_3 rfl (lv_at hl 0 rfl) ?_
  refine lv_bipush (v := (10 : Int32)) hx hb dL_flow_4 (by decide) ?_
  refine lv_iload_n hx hb dL_flow_6 rfl (lv_at hl 1 rfl) ?_
  refine lv_sipush (v := (1000 : Int32)) hx hb dL_flow_7 (by decide) ?_
  refine lv_idiv hx hb dL_flow_10 (by decide) ?_
  refine lv_iconst (v := (2 : Int32)) hx hb dL_flow_11 (by decide) ?_
  refine lv_irem hx hb dL_flow_12 (by decide) ?_
  refine lv_iadd hx hb dL_flow_13 ?_
  obtain ⟨hg1, hf⟩ := gd_s hf
  refine va_iald hx hb hK hP 0 0 rfl rfl hg1 dL_flow_14 ?_
  refine lv_imul hx hb dL_flow_15 ?_
  refine lv_iload_n hx hb dL_flow_16 rfl (lv_at hl 1 rfl) ?_
  refine lv_sipush (v := (4000 : Int32)) hx hb dL_flow_17 (by decide) ?_
  refine lv_idiv hx hb dL_flow_20 (by decide) ?_
  obtain ⟨hg2, hf⟩ := gd_s hf
  refine lv_idiv hx hb dL_flow_21 hg2 ?_
  obtain rfl := Option.some.inj hf
  exact ret 22 ls _ dL_flow_22 rfl rfl
abbrev rmL_amounts : Room := { frames := 1, cells := 0, slots := 0, locals := 0 }
set_option maxHeartbeats 4000000 in
set_option maxRecDepth 100000 in
theorem c_L_amounts (bc : Nat) (vc : Nat → Int32) (R : Int32) (hf : f_L_amounts vc = some R) : RdI l yL_amounts wsL_amounts rmL_amounts D cI cC ([(bc, .inl (cI, 64, .inl vc))] : va_W) [.ref bc] R := by
  refine en_R (cc := cL_amounts) (n := 3) (by decide) rfl (Nat.le_of_ble_eq_true rfl) ?_
  intro p e s m args below meth c Q AA ls hx hb hml hown hts hK hN hP hD hl ret
  have hown : s.vm.findClass RL = some m.cls := hown
  have hF : FX p m c cL_amounts 3 s args wsL_amounts RL D cI cC := ⟨⟨hx, hb, hml, hown, hts⟩, hK, hN⟩
  have hl : lv_has ls 3 [(0, .ref bc)] := hl
  have L4 : ∀ n4 : Nat, ∀ (y1_4 : Int32) (y2_4 : Int32), ∀ ls : Array Slot, lv_has ls 3 [(0, .ref bc), (1, .int y1_4), (2, .int y2_4)] → f_L_amounts_L4 vc n4 y1_4 y2_4 = some R → W p l e rmL_amounts s m args below meth c s.heap [] 0 0 Q (F0 m 4 ls []) := by
    intro n4
    induction n4 with
    | zero => intro y1_4 y2_4 ls hl hf; rw [f_L_amounts_L4] at hf; cases hf
    | succ n4 IH4 =>
      intro y1_4 y2_4 ls hl hf
      rw [f_L_amounts_L4] at hf
      refine lv_iload_n hx hb dL_amounts_4 rfl (lv_at hl 2 rfl) ?_
      refine lv_aload_n hx hb dL_amounts_5 rfl (lv_at hl 0 rfl) ?_
      refine lv_iconst (v := (0 : Int32)) hx hb dL_amounts_6 (by decide) ?_
      refine va_iald hx hb hK hP 0 0 rfl rfl (show ¬ ((0 : Int32) < 0 ∨ 64 ≤ (0 : Int32).toNatClampNeg) by decide) dL_amounts_7 ?_
      refine lv_icmp_gt (tgt := 27) hx hb dL_amounts_8 (by decide) (fun hc1 => ?_) (fun hc1 => ?_)
      · replace hf := it hc1 hf
        refine lv_iload_n hx hb dL_amounts_27 rfl (lv_at hl 1 rfl) ?_
        obtain rfl := Option.some.inj hf
        exact ret 28 ls _ dL_amounts_28 rfl rfl
      · replace hf := ie hc1 hf
        refine lv_iload_n hx hb dL_amounts_11 rfl (lv_at hl 1 rfl) ?_
        refine lv_aload_n hx hb dL_amounts_12 rfl (lv_at hl 0 rfl) ?_
        refine lv_iload_n hx hb dL_amounts_13 rfl (lv_at hl 2 rfl) ?_
        obtain ⟨hg2, hf⟩ := gd_s hf
        refine va_iald hx hb hK hP 0 0 rfl rfl hg2 dL_amounts_14 ?_
        refine lv_sipush (v := (1000 : Int32)) hx hb dL_amounts_15 (by decide) ?_
        refine lv_irem hx hb dL_amounts_18 (by decide) ?_
        refine lv_iadd hx hb dL_amounts_19 ?_
        refine lv_topi (fun v3 ev3 => ?_)
        replace hf := lt_e ev3 hf
        refine lv_istore_n (lv' := [(1, .int v3), (0, .ref bc), (2, .int y2_4)]) hx hb dL_amounts_20 rfl hl (by decide) rfl (fun ls hl => ?_)
        obtain ⟨v4, ev4⟩ : ∃ z : Int32, z = y2_4 + (1 : Int32) := ⟨_, rfl⟩
        replace hf := lt_e ev4 hf
        refine lv_iinc (v := v4) (lv' := [(2, .int v4), (1, .int v3), (0, .ref bc)]) hx hb dL_amounts_21 hl (k := 2) rfl (by rw [ev4]; rfl) (by decide) rfl (fun ls hl => ?_)
        refine lv_goto (tgt := 4) hx hb dL_amounts_24 (by decide) ?_
        exact IH4 v3 v4 ls (lv_sub hl [2, 1, 0] rfl) hf
  rw [f_L_amounts] at hf
  refine lv_iconst (v := (0 : Int32)) hx hb dL_amounts_0 (by decide) ?_
  refine lv_istore_n (lv' := [(1, .int (0 : Int32)), (0, .ref bc)]) hx hb dL_amounts_1 rfl hl (by decide) rfl (fun ls hl => ?_)
  refine lv_iconst (v := (1 : Int32)) hx hb dL_amounts_2 (by decide) ?_
  refine lv_istore_n (lv' := [(2, .int (1 : Int32)), (1, .int (0 : Int32)), (0, .ref bc)]) hx hb dL_amounts_3 rfl hl (by decide) rfl (fun ls hl => ?_)
  exact L4 FU (0 : Int32) (1 : Int32) ls (lv_sub hl [2, 1, 0] rfl) hf
abbrev rmL_hopper : Room := { frames := 1, cells := 0, slots := 0, locals := 0 }
set_option maxHeartbeats 4000000 in
set_option maxRecDepth 100000 in
theorem c_L_hopper (bg : Nat) (bh : Nat) (vg : Nat → Int32) (vh : Nat → Int32) (R : Int32) (hf : f_L_hopper vg vh = some R) : RdI l yL_hopper wsL_hopper rmL_hopper D cI cC ([(bg, .inl (cI, 15, .inl vg)), (bh, .inl (cI, 12, .inl vh))] : va_W) [.ref bg, .ref bh] R := by
  refine en_R (cc := cL_hopper) (n := 4) (by decide) rfl (Nat.le_of_ble_eq_true rfl) ?_
  intro p e s m args below meth c Q AA ls hx hb hml hown hts hK hN hP hD hl ret
  have hown : s.vm.findClass RL = some m.cls := hown
  have hF : FX p m c cL_hopper 4 s args wsL_hopper RL D cI cC := ⟨⟨hx, hb, hml, hown, hts⟩, hK, hN⟩
  have hl : lv_has ls 4 [(0, .ref bg), (1, .ref bh)] := hl
  have L4 : ∀ n4 : Nat, ∀ (y2_4 : Int32) (y3_4 : Int32), ∀ ls : Array Slot, lv_has ls 4 [(0, .ref bg), (1, .ref bh), (2, .int y2_4), (3, .int y3_4)] → f_L_hopper_L4 vg vh n4 y2_4 y3_4 = some R → W p l e rmL_hopper s m args below meth c s.heap [] 0 0 Q (F0 m 4 ls []) := by
    intro n4
    induction n4 with
    | zero => intro y2_4 y3_4 ls hl hf; rw [f_L_hopper_L4] at hf; cases hf
    | succ n4 IH4 =>
      intro y2_4 y3_4 ls hl hf
      rw [f_L_hopper_L4] at hf
      refine lv_iload_n hx hb dL_hopper_4 rfl (lv_at hl 3 rfl) ?_
      refine lv_aload_n hx hb dL_hopper_5 rfl (lv_at hl 0 rfl) ?_
      refine lv_bipush (v := (13 : Int32)) hx hb dL_hopper_6 (by decide) ?_
      refine va_iald hx hb hK hP 0 0 rfl rfl (show ¬ ((13 : Int32) < 0 ∨ 15 ≤ (13 : Int32).toNatClampNeg) by decide) dL_hopper_8 ?_
      refine lv_icmp_ge (tgt := 28) hx hb dL_hopper_9 (by decide) (fun hc1 => ?_) (fun hc1 => ?_)
      · replace hf := it hc1 hf
        refine lv_iload_n hx hb dL_hopper_28 rfl (lv_at hl 2 rfl) ?_
        obtain rfl := Option.some.inj hf
        exact ret 29 ls _ dL_hopper_29 rfl rfl
      · replace hf := ie hc1 hf
        refine lv_iload_n hx hb dL_hopper_12 rfl (lv_at hl 2 rfl) ?_
        refine lv_aload_n hx hb dL_hopper_13 rfl (lv_at hl 1 rfl) ?_
        refine lv_iconst (v := (2 : Int32)) hx hb dL_hopper_14 (by decide) ?_
        refine lv_iload_n hx hb dL_hopper_15 rfl (lv_at hl 3 rfl) ?_
        refine lv_imul hx hb dL_hopper_16 ?_
        refine lv_iconst (v := (1 : Int32)) hx hb dL_hopper_17 (by decide) ?_
        refine lv_iadd hx hb dL_hopper_18 ?_
        obtain ⟨hg2, hf⟩ := gd_s hf
        refine va_iald hx hb hK hP 1 0 rfl rfl hg2 dL_hopper_19 ?_
        refine lv_iadd hx hb dL_hopper_20 ?_
        refine lv_topi (fun v3 ev3 => ?_)
        replace hf := lt_e ev3 hf
        refine lv_istore_n (lv' := [(2, .int v3), (0, .ref bg), (1, .ref bh), (3, .int y3_4)]) hx hb dL_hopper_21 rfl hl (by decide) rfl (fun ls hl => ?_)
        obtain ⟨v4, ev4⟩ : ∃ z : Int32, z = y3_4 + (1 : Int32) := ⟨_, rfl⟩
        replace hf := lt_e ev4 hf
        refine lv_iinc (v := v4) (lv' := [(3, .int v4), (2, .int v3), (0, .ref bg), (1, .ref bh)]) hx hb dL_hopper_22 hl (k := 3) rfl (by rw [ev4]; rfl) (by decide) rfl (fun ls hl => ?_)
        refine lv_goto (tgt := 4) hx hb dL_hopper_25 (by decide) ?_
        exact IH4 v3 v4 ls (lv_sub hl [2, 3, 1, 0] rfl) hf
  rw [f_L_hopper] at hf
  refine lv_iconst (v := (0 : Int32)) hx hb dL_hopper_0 (by decide) ?_
  refine lv_istore_n (lv' := [(2, .int (0 : Int32)), (0, .ref bg), (1, .ref bh)]) hx hb dL_hopper_1 rfl hl (by decide) rfl (fun ls hl => ?_)
  refine lv_iconst (v := (0 : Int32)) hx hb dL_hopper_2 (by decide) ?_
  refine lv_istore_n (lv' := [(3, .int (0 : Int32)), (2, .int (0 : Int32)), (0, .ref bg), (1, .ref bh)]) hx hb dL_hopper_3 rfl hl (by decide) rfl (fun ls hl => ?_)
  exact L4 FU (0 : Int32) (0 : Int32) ls (lv_sub hl [2, 3, 1, 0] rfl) hf
abbrev rmL_pass : Room := { frames := 1, cells := 0, slots := 0, locals := 0 }
set_option maxHeartbeats 4000000 in
set_option maxRecDepth 100000 in
theorem c_L_pass (bg : Nat) (bu : Nat) (x2 : Int32) (vg : Nat → Int32) (vu : Nat → Int32) (R : Int32 × (Nat → Int32) × (Nat → Int32)) (hf : f_L_pass x2 vg vu = some R) : WrI l yL_pass wsL_pass rmL_pass D cI cC ([(bg, .inl (cI, 15, .inl vg)), (bu, .inl (cI, 8, .inl vu))] : va_W) ([(bg, .inl (cI, 15, .inl R.2.1)), (bu, .inl (cI, 8, .inl R.2.2))] : va_W) [.ref bg, .ref bu, .int x2] R.1 := by
  refine en_W (cc := cL_pass) (n := 7) (by decide) rfl (Nat.le_of_ble_eq_true rfl) ?_
  intro p e s m args below meth c Q AA ls hx hb hml hown hts hK hN hP hD hS hl ret
  have hown : s.vm.findClass RL = some m.cls := hown
  have hF : FX p m c cL_pass 7 s args wsL_pass RL D cI cC := ⟨⟨hx, hb, hml, hown, hts⟩, hK, hN⟩
  have hl : lv_has ls 7 [(0, .ref bg), (1, .ref bu), (2, .int x2)] := hl
  have L5 : ∀ n5 : Nat, ∀ (y2_5 : Int32) (y3_5 : Int32) (y4_5 : Int32) (vg_5 : Nat → Int32) (vu_5 : Nat → Int32) (H : Heap) (locs : List Loc), va_P D vwCl ([(bg, .inl (cI, 15, .inl vg_5)), (bu, .inl (cI, 8, .inl vu_5))] : va_W) H → va_D AA ([(bg, .inl (cI, 15, .inl vg_5)), (bu, .inl (cI, 8, .inl vu_5))] : va_W) → va_S AA s.heap H locs → ∀ ls : Array Slot, lv_has ls 7 [(0, .ref bg), (1, .ref bu), (2, .int y2_5), (3, .int y3_5), (4, .int y4_5)] → f_L_pass_L5 y2_5 n5 y3_5 y4_5 vg_5 vu_5 = some R → W p l e rmL_pass s m args below meth c H locs 0 0 Q (F0 m 5 ls []) := by
    intro n5
    induction n5 with
    | zero => intro y2_5 y3_5 y4_5 vg_5 vu_5 H locs hP hD hS ls hl hf; rw [f_L_pass_L5] at hf; cases hf
    | succ n5 IH5 =>
      intro y2_5 y3_5 y4_5 vg_5 vu_5 H locs hP hD hS ls hl hf
      have J92 : ∀ (y3_92 : Int32) (y4_92 : Int32) (vg_92 : Nat → Int32) (vu_92 : Nat → Int32) (H : Heap) (locs : List Loc), va_P D vwCl ([(bg, .inl (cI, 15, .inl vg_92)), (bu, .inl (cI, 8, .inl vu_92))] : va_W) H → va_D AA ([(bg, .inl (cI, 15, .inl vg_92)), (bu, .inl (cI, 8, .inl vu_92))] : va_W) → va_S AA s.heap H locs → ∀ ls : Array Slot, lv_has ls 7 [(0, .ref bg), (1, .ref bu), (2, .int y2_5), (3, .int y3_92), (4, .int y4_92)] → f_L_pass_J92 (f_L_pass_L5 y2_5 n5) y2_5 y3_92 y4_92 vg_92 vu_92 = some R → W p l e rmL_pass s m args below meth c H locs 0 0 Q (F0 m 92 ls []) := by
        intro y3_92 y4_92 vg_92 vu_92 H locs hP hD hS ls hl hf
        rw [f_L_pass_J92] at hf
        obtain ⟨v11, ev11⟩ : ∃ z : Int32, z = y4_92 + (1 : Int32) := ⟨_, rfl⟩
        replace hf := lt_e ev11 hf
        refine lv_iinc (v := v11) (lv' := [(4, .int v11), (0, .ref bg), (1, .ref bu), (2, .int y2_5), (3, .int y3_92)]) hx hb dL_pass_92 hl (k := 4) rfl (by rw [ev11]; rfl) (by decide) rfl (fun ls hl => ?_)
        refine lv_goto (tgt := 5) hx hb dL_pass_95 (by decide) ?_
        exact IH5 y2_5 y3_92 v11 vg_92 vu_92 H locs hP hD hS ls (lv_sub hl [1, 2, 3, 4, 0] rfl) hf
      have L21 : ∀ n21 : Nat, ∀ (y4_21 : Int32) (y3_21 : Int32) (y5_21 : Int32) (vg_21 : Nat → Int32) (vu_21 : Nat → Int32) (H : Heap) (locs : List Loc), va_P D vwCl ([(bg, .inl (cI, 15, .inl vg_21)), (bu, .inl (cI, 8, .inl vu_21))] : va_W) H → va_D AA ([(bg, .inl (cI, 15, .inl vg_21)), (bu, .inl (cI, 8, .inl vu_21))] : va_W) → va_S AA s.heap H locs → ∀ ls : Array Slot, lv_has ls 7 [(0, .ref bg), (1, .ref bu), (2, .int y2_5), (3, .int y3_21), (4, .int y4_21), (5, .int y5_21)] → f_L_pass_L21 (f_L_pass_L5 y2_5 n5) y2_5 y4_21 n21 y3_21 y5_21 vg_21 vu_21 = some R → W p l e rmL_pass s m args below meth c H locs 0 0 Q (F0 m 21 ls []) := by
        intro n21
        induction n21 with
        | zero => intro y4_21 y3_21 y5_21 vg_21 vu_21 H locs hP hD hS ls hl hf; rw [f_L_pass_L21] at hf; cases hf
        | succ n21 IH21 =>
          intro y4_21 y3_21 y5_21 vg_21 vu_21 H locs hP hD hS ls hl hf
          have J70 : ∀ (y3_70 : Int32) (y5_70 : Int32) (z0_70 : Int32) (vg_70 : Nat → Int32) (vu_70 : Nat → Int32) (H : Heap) (locs : List Loc), va_P D vwCl ([(bg, .inl (cI, 15, .inl vg_70)), (bu, .inl (cI, 8, .inl vu_70))] : va_W) H → va_D AA ([(bg, .inl (cI, 15, .inl vg_70)), (bu, .inl (cI, 8, .inl vu_70))] : va_W) → va_S AA s.heap H locs → ∀ ls : Array Slot, lv_has ls 7 [(0, .ref bg), (1, .ref bu), (2, .int y2_5), (3, .int y3_70), (4, .int y4_21), (5, .int y5_70)] → f_L_pass_J70 (f_L_pass_L5 y2_5 n5) (f_L_pass_L21 (f_L_pass_L5 y2_5 n5) y2_5 y4_21 n21) y2_5 y3_70 y4_21 y5_70 z0_70 vg_70 vu_70 = some R → W p l e rmL_pass s m args below meth c H locs 0 0 Q (F0 m 70 ls [.int z0_70]) := by
            intro y3_70 y5_70 z0_70 vg_70 vu_70 H locs hP hD hS ls hl hf
            rw [f_L_pass_J70] at hf
            refine lv_istore (lv' := [(6, .int z0_70), (0, .ref bg), (1, .ref bu), (2, .int y2_5), (3, .int y3_70), (4, .int y4_21), (5, .int y5_70)]) hx hb dL_pass_70 hl (by decide) rfl (fun ls hl => ?_)
            refine lv_aload_n hx hb dL_pass_72 rfl (lv_at hl 2 rfl) ?_
            refine lv_iload hx hb dL_pass_73 (lv_at hl 6 rfl) ?_
            refine lv_dup2_11 hx hb dL_pass_75 rfl rfl ?_
            obtain ⟨hg12, hf⟩ := gd_s hf
            refine va_iald hx hb hK hP 1 0 rfl rfl hg12 dL_pass_76 ?_
            refine lv_iload hx hb dL_pass_77 (lv_at hl 0 rfl) ?_
            refine lv_isub hx hb dL_pass_79 ?_
            refine lv_topi (fun v13 ev13 => ?_)
            replace hf := lt_e ev13 hf
            obtain ⟨hg14, hf⟩ := gd_s hf
            refine x_iast hx hb hK hP hD hS 1 0 rfl rfl hg14 dL_pass_80 (fun Z15 H locs eZ15 hP hD hS => ?_)
            replace hf := lt_e eZ15 hf
            have hP : va_P D vwCl ([(bg, .inl (cI, 15, .inl vg_70)), (bu, .inl (cI, 8, .inl Z15))] : va_W) H := hP
            have hD : va_D AA ([(bg, .inl (cI, 15, .inl vg_70)), (bu, .inl (cI, 8, .inl Z15))] : va_W) := hD
            refine lv_iload_n hx hb dL_pass_81 rfl (lv_at hl 4 rfl) ?_
            refine lv_iload hx hb dL_pass_82 (lv_at hl 0 rfl) ?_
            refine lv_iadd hx hb dL_pass_84 ?_
            refine lv_topi (fun v16 ev16 => ?_)
            replace hf := lt_e ev16 hf
            refine lv_istore_n (lv' := [(3, .int v16), (6, .int z0_70), (0, .ref bg), (1, .ref bu), (2, .int y2_5), (4, .int y4_21), (5, .int y5_70)]) hx hb dL_pass_85 rfl hl (by decide) rfl (fun ls hl => ?_)
            obtain ⟨v17, ev17⟩ : ∃ z : Int32, z = y5_70 + (4 : Int32) := ⟨_, rfl⟩
            replace hf := lt_e ev17 hf
            refine lv_iinc (v := v17) (lv' := [(5, .int v17), (3, .int v16), (6, .int z0_70), (0, .ref bg), (1, .ref bu), (2, .int y2_5), (4, .int y4_21)]) hx hb dL_pass_86 hl (k := 6) rfl (by rw [ev17]; rfl) (by decide) rfl (fun ls hl => ?_)
            refine lv_goto (tgt := 21) hx hb dL_pass_89 (by decide) ?_
            exact IH21 y4_21 v16 v17 vg_70 Z15 H locs hP hD hS ls (lv_sub hl [3, 4, 5, 1, 6, 0] rfl) hf
          rw [f_L_pass_L21] at hf
          refine lv_iload hx hb dL_pass_21 (lv_at hl 5 rfl) ?_
          refine lv_bipush (v := (8 : Int32)) hx hb dL_pass_23 (by decide) ?_
          refine lv_icmp_ge (tgt := 92) hx hb dL_pass_25 (by decide) (fun hc4 => ?_) (fun hc4 => ?_)
          · replace hf := it hc4 hf
            exact J92 y3_21 y4_21 vg_21 vu_21 H locs hP hD hS ls (lv_sub hl [0, 1, 2, 3, 4] rfl) hf
          · replace hf := ie hc4 hf
            refine lv_aload_n hx hb dL_pass_28 rfl (lv_at hl 0 rfl) ?_
            refine lv_iconst (v := (0 : Int32)) hx hb dL_pass_29 (by decide) ?_
            refine va_iald hx hb hK hP 0 0 rfl rfl (show ¬ ((0 : Int32) < 0 ∨ 15 ≤ (0 : Int32).toNatClampNeg) by decide) dL_pass_30 ?_
            refine lv_bipush (v := (10 : Int32)) hx hb dL_pass_31 (by decide) ?_
            refine lv_irem hx hb dL_pass_33 (by decide) ?_
            refine lv_if_ne (tgt := 92) hx hb dL_pass_34 (by decide) (fun hc5 => ?_) (fun hc5 => ?_)
            · replace hf := ie hc5 hf
              exact J92 y3_21 y4_21 vg_21 vu_21 H locs hP hD hS ls (lv_sub hl [0, 1, 2, 3, 4] rfl) hf
            · replace hf := it hc5 hf
              refine lv_aload_n hx hb dL_pass_37 rfl (lv_at hl 1 rfl) ?_
              refine lv_iload hx hb dL_pass_38 (lv_at hl 5 rfl) ?_
              obtain ⟨hg6, hf⟩ := gd_s hf
              refine va_iald hx hb hK hP 1 0 rfl rfl hg6 dL_pass_40 ?_
              refine lv_bipush (v := (16 : Int32)) hx hb dL_pass_41 (by decide) ?_
              refine lv_idiv hx hb dL_pass_43 (by decide) ?_
              refine lv_iconst (v := (1 : Int32)) hx hb dL_pass_44 (by decide) ?_
              refine lv_icmp_le (tgt := 58) hx hb dL_pass_45 (by decide) (fun hc7 => ?_) (fun hc7 => ?_)
              · replace hf := it hc7 hf
                refine lv_aload_n hx hb dL_pass_58 rfl (lv_at hl 1 rfl) ?_
                refine lv_iload hx hb dL_pass_59 (lv_at hl 5 rfl) ?_
                obtain ⟨hg8, hf⟩ := gd_s hf
                refine va_iald hx hb hK hP 1 0 rfl rfl hg8 dL_pass_61 ?_
                refine lv_if_le (tgt := 69) hx hb dL_pass_62 (by decide) (fun hc9 => ?_) (fun hc9 => ?_)
                · replace hf := it hc9 hf
                  refine lv_iconst (v := (0 : Int32)) hx hb dL_pass_69 (by decide) ?_
                  exact J70 y3_21 y5_21 (0 : Int32) vg_21 vu_21 H locs hP hD hS ls (lv_sub hl [0, 1, 2, 3, 4, 5] rfl) hf
                · replace hf := ie hc9 hf
                  refine lv_iconst (v := (1 : Int32)) hx hb dL_pass_65 (by decide) ?_
                  refine lv_goto (tgt := 70) hx hb dL_pass_66 (by decide) ?_
                  exact J70 y3_21 y5_21 (1 : Int32) vg_21 vu_21 H locs hP hD hS ls (lv_sub hl [0, 1, 2, 3, 4, 5] rfl) hf
              · replace hf := ie hc7 hf
                refine lv_aload_n hx hb dL_pass_48 rfl (lv_at hl 1 rfl) ?_
                refine lv_iload hx hb dL_pass_49 (lv_at hl 5 rfl) ?_
                obtain ⟨hg10, hf⟩ := gd_s hf
                refine va_iald hx hb hK hP 1 0 rfl rfl hg10 dL_pass_51 ?_
                refine lv_bipush (v := (16 : Int32)) hx hb dL_pass_52 (by decide) ?_
                refine lv_idiv hx hb dL_pass_54 (by decide) ?_
                refine lv_goto (tgt := 70) hx hb dL_pass_55 (by decide) ?_
                exact J70 y3_21 y5_21 ((vu_21 y5_21.toNatClampNeg) / (16 : Int32)) vg_21 vu_21 H locs hP hD hS ls (lv_sub hl [0, 1, 2, 3, 4, 5] rfl) hf
      rw [f_L_pass_L5] at hf
      refine lv_iload hx hb dL_pass_5 (lv_at hl 4 rfl) ?_
      refine lv_iload_n hx hb dL_pass_7 rfl (lv_at hl 2 rfl) ?_
      refine lv_icmp_ge (tgt := 98) hx hb dL_pass_8 (by decide) (fun hc1 => ?_) (fun hc1 => ?_)
      · replace hf := it hc1 hf
        refine lv_iload_n hx hb dL_pass_98 rfl (lv_at hl 3 rfl) ?_
        obtain rfl := Option.some.inj hf
        exact ret 99 ls _ H locs dL_pass_99 rfl rfl hP hS
      · replace hf := ie hc1 hf
        refine lv_aload_n hx hb dL_pass_11 rfl (lv_at hl 0 rfl) ?_
        refine lv_iconst (v := (0 : Int32)) hx hb dL_pass_12 (by decide) ?_
        refine lv_dup2_11 hx hb dL_pass_13 rfl rfl ?_
        refine va_iald hx hb hK hP 0 0 rfl rfl (show ¬ ((0 : Int32) < 0 ∨ 15 ≤ (0 : Int32).toNatClampNeg) by decide) dL_pass_14 ?_
        refine lv_iconst (v := (1 : Int32)) hx hb dL_pass_15 (by decide) ?_
        refine lv_iadd hx hb dL_pass_16 ?_
        refine lv_topi (fun v2 ev2 => ?_)
        replace hf := lt_e ev2 hf
        refine x_iast hx hb hK hP hD hS 0 0 rfl rfl (show ¬ ((0 : Int32) < 0 ∨ 15 ≤ (0 : Int32).toNatClampNeg) by decide) dL_pass_17 (fun Z3 H locs eZ3 hP hD hS => ?_)
        replace hf := lt_e eZ3 hf
        have hP : va_P D vwCl ([(bg, .inl (cI, 15, .inl Z3)), (bu, .inl (cI, 8, .inl vu_5))] : va_W) H := hP
        have hD : va_D AA ([(bg, .inl (cI, 15, .inl Z3)), (bu, .inl (cI, 8, .inl vu_5))] : va_W) := hD
        refine lv_iconst (v := (1 : Int32)) hx hb dL_pass_18 (by decide) ?_
        refine lv_istore (lv' := [(5, .int (1 : Int32)), (0, .ref bg), (1, .ref bu), (2, .int y2_5), (3, .int y3_5), (4, .int y4_5)]) hx hb dL_pass_19 hl (by decide) rfl (fun ls hl => ?_)
        exact L21 FU y4_5 y3_5 (1 : Int32) Z3 vu_5 H locs hP hD hS ls (lv_sub hl [1, 2, 3, 4, 5, 0] rfl) hf
  rw [f_L_pass] at hf
  obtain ⟨H, hH⟩ : ∃ z : Heap, z = s.heap := ⟨_, rfl⟩
  obtain ⟨locs, hL⟩ : ∃ z : List Loc, z = [] := ⟨_, rfl⟩
  replace hP := hH ▸ hP
  replace hS : va_S AA s.heap H locs := by rw [hH, hL]; exact hS
  suffices hgoal : W p l e rmL_pass s m args below meth c H locs 0 0 Q (F0 m 0 ls []) by rw [hH, hL] at hgoal; exact hgoal
  clear hH hL
  refine lv_iconst (v := (0 : Int32)) hx hb dL_pass_0 (by decide) ?_
  refine lv_istore_n (lv' := [(3, .int (0 : Int32)), (0, .ref bg), (1, .ref bu), (2, .int x2)]) hx hb dL_pass_1 rfl hl (by decide) rfl (fun ls hl => ?_)
  refine lv_iconst (v := (0 : Int32)) hx hb dL_pass_2 (by decide) ?_
  refine lv_istore (lv' := [(4, .int (0 : Int32)), (3, .int (0 : Int32)), (0, .ref bg), (1, .ref bu), (2, .int x2)]) hx hb dL_pass_3 hl (by decide) rfl (fun ls hl => ?_)
  exact L5 FU x2 (0 : Int32) (0 : Int32) vg vu H locs hP hD hS ls (lv_sub hl [2, 3, 4, 1, 0] rfl) hf
abbrev rmL_away : Room := { frames := 1, cells := 0, slots := 0, locals := 0 }
set_option maxHeartbeats 4000000 in
set_option maxRecDepth 100000 in
theorem c_L_away (bg : Nat) (x1 : Int32) (vg : Nat → Int32) (R : Int32) (hf : f_L_away x1 vg = some R) : RdI l yL_away wsL_away rmL_away D cI cC ([(bg, .inl (cI, 15, .inl vg))] : va_W) [.ref bg, .int x1] R := by
  refine en_R (cc := cL_away) (n := 2) (by decide) rfl (Nat.le_of_ble_eq_true rfl) ?_
  intro p e s m args below meth c Q AA ls hx hb hml hown hts hK hN hP hD hl ret
  have hown : s.vm.findClass RL = some m.cls := hown
  have hF : FX p m c cL_away 2 s args wsL_away RL D cI cC := ⟨⟨hx, hb, hml, hown, hts⟩, hK, hN⟩
  have hl : lv_has ls 2 [(0, .ref bg), (1, .int x1)] := hl
  rw [f_L_away] at hf
  refine lv_iload_n hx hb dL_away_0 rfl (lv_at hl 1 rfl) ?_
  refine lv_aload_n hx hb dL_away_1 rfl (lv_at hl 0 rfl) ?_
  refine lv_bipush (v := (7 : Int32)) hx hb dL_away_2 (by decide) ?_
  refine va_iald hx hb hK hP 0 0 rfl rfl (show ¬ ((7 : Int32) < 0 ∨ 15 ≤ (7 : Int32).toNatClampNeg) by decide) dL_away_4 ?_
  refine lv_icmp_le (tgt := 17) hx hb dL_away_5 (by decide) (fun hc1 => ?_) (fun hc1 => ?_)
  · replace hf := it hc1 hf
    refine lv_aload_n hx hb dL_away_17 rfl (lv_at hl 0 rfl) ?_
    refine lv_bipush (v := (7 : Int32)) hx hb dL_away_18 (by decide) ?_
    refine va_iald hx hb hK hP 0 0 rfl rfl (show ¬ ((7 : Int32) < 0 ∨ 15 ≤ (7 : Int32).toNatClampNeg) by decide) dL_away_20 ?_
    refine lv_iload_n hx hb dL_away_21 rfl (lv_at hl 1 rfl) ?_
    refine lv_isub hx hb dL_away_22 ?_
    obtain rfl := Option.some.inj hf
    exact ret 23 ls _ dL_away_23 rfl rfl
  · replace hf := ie hc1 hf
    refine lv_iload_n hx hb dL_away_8 rfl (lv_at hl 1 rfl) ?_
    refine lv_aload_n hx hb dL_away_9 rfl (lv_at hl 0 rfl) ?_
    refine lv_bipush (v := (7 : Int32)) hx hb dL_away_10 (by decide) ?_
    refine va_iald hx hb hK hP 0 0 rfl rfl (show ¬ ((7 : Int32) < 0 ∨ 15 ≤ (7 : Int32).toNatClampNeg) by decide) dL_away_12 ?_
    refine lv_isub hx hb dL_away_13 ?_
    refine lv_goto (tgt := 23) hx hb dL_away_14 (by decide) ?_
    obtain rfl := Option.some.inj hf
    exact ret 23 ls _ dL_away_23 rfl rfl
abbrev rmL_can : Room := { frames := 2, cells := 0, slots := 0, locals := 23 }
set_option maxHeartbeats 4000000 in
set_option maxRecDepth 100000 in
theorem c_L_can (bg : Nat) (bh : Nat) (bc : Nat) (be : Nat) (x4 : Int32) (vg : Nat → Int32) (vh : Nat → Int32) (vc : Nat → Int32) (ve : Nat → Int32) (R : Int32) (hf : f_L_can x4 vg vh vc ve = some R) : RdI l yL_can wsL_can rmL_can D cI cC ([(bg, .inl (cI, 15, .inl vg)), (bh, .inl (cI, 12, .inl vh)), (bc, .inl (cI, 64, .inl vc)), (be, .inl (cI, 64, .inl ve))] : va_W) [.ref bg, .ref bh, .ref bc, .ref be, .int x4] R := by
  refine en_R (cc := cL_can) (n := 6) (by decide) rfl (Nat.le_of_ble_eq_true rfl) ?_
  intro p e s m args below meth c Q AA ls hx hb hml hown hts hK hN hP hD hl ret
  have hown : s.vm.findClass RL = some m.cls := hown
  have hF : FX p m c cL_can 6 s args wsL_can RL D cI cC := ⟨⟨hx, hb, hml, hown, hts⟩, hK, hN⟩
  have hl : lv_has ls 6 [(0, .ref bg), (1, .ref bh), (2, .ref bc), (3, .ref be), (4, .int x4)] := hl
  have k1_ := hts (.constant RL 15 (-1000002)) (List.mem_of_getElem? (i := 1) rfl)
  have k2_ := hts (.constant RL 20 (-1000003)) (List.mem_of_getElem? (i := 2) rfl)
  have J43 : ∀ (z0_43 : Int32), ∀ ls : Array Slot, lv_has ls 6 [(3, .ref be)] → f_L_can_J43 vg vh vc ve z0_43 = some R → W p l e rmL_can s m args below meth c s.heap [] 0 0 Q (F0 m 43 ls [.int z0_43]) := by
    intro z0_43 ls hl hf
    rw [f_L_can_J43] at hf
    refine lv_istore (lv' := [(5, .int z0_43), (3, .ref be)]) hx hb dL_can_43 hl (by decide) rfl (fun ls hl => ?_)
    refine lv_aload_n hx hb dL_can_45 rfl (lv_at hl 1 rfl) ?_
    obtain ⟨q6, hq6, hf⟩ := ob hf
    refine cl_RS (As := [.ref be]) (rest := []) hF hP hD (c_L_amounts be ve q6 hq6) (va_cwS 1 hts gL_can_L_amounts rfl rfl rfl (by decide +kernel) ⟨(Nat.le_of_ble_eq_true rfl), (Nat.le_of_ble_eq_true rfl)⟩) [3] rfl (by decide +kernel) rfl rfl hl.1 (Nat.le_of_ble_eq_true rfl) dL_can_46 ⟨Nat.zero_le _, Nat.zero_le _⟩ ?_
    refine lv_iload hx hb dL_can_49 (lv_at hl 0 rfl) ?_
    refine lv_iadd hx hb dL_can_51 ?_
    refine lv_sipush (v := (400 : Int32)) hx hb dL_can_52 (by decide) ?_
    refine lv_icmp_le (tgt := 63) hx hb dL_can_55 (by decide) (fun hc7 => ?_) (fun hc7 => ?_)
    · replace hf := it hc7 hf
      refine lv_iload hx hb dL_can_63 (lv_at hl 0 rfl) ?_
      obtain rfl := Option.some.inj hf
      exact ret 65 ls _ dL_can_65 rfl rfl
    · replace hf := ie hc7 hf
      refine lv_ldc hx hb hown k2_ dL_can_58 ?_
      refine lv_goto (tgt := 65) hx hb dL_can_60 (by decide) ?_
      obtain rfl := Option.some.inj hf
      exact ret 65 ls _ dL_can_65 rfl rfl
  rw [f_L_can] at hf
  refine lv_aload_n hx hb dL_can_0 rfl (lv_at hl 0 rfl) ?_
  refine lv_aload_n hx hb dL_can_1 rfl (lv_at hl 1 rfl) ?_
  obtain ⟨q1, hq1, hf⟩ := ob hf
  refine cl_RS (As := [.ref bg, .ref bh]) (rest := []) hF hP hD (c_L_hopper bg bh vg vh q1 hq1) (va_cwS 2 hts gL_can_L_hopper rfl rfl rfl (by decide +kernel) ⟨(Nat.le_of_ble_eq_true rfl), (Nat.le_of_ble_eq_true rfl)⟩) [0, 1] rfl (by decide +kernel) rfl rfl hl.1 (Nat.le_of_ble_eq_true rfl) dL_can_2 ⟨Nat.zero_le _, Nat.zero_le _⟩ ?_
  refine lv_iload hx hb dL_can_5 (lv_at hl 4 rfl) ?_
  refine lv_icmp_ge (tgt := 13) hx hb dL_can_7 (by decide) (fun hc2 => ?_) (fun hc2 => ?_)
  · replace hf := it hc2 hf
    refine lv_aload_n hx hb dL_can_13 rfl (lv_at hl 2 rfl) ?_
    obtain ⟨q3, hq3, hf⟩ := ob hf
    refine cl_RS (As := [.ref bc]) (rest := []) hF hP hD (c_L_amounts bc vc q3 hq3) (va_cwS 1 hts gL_can_L_amounts rfl rfl rfl (by decide +kernel) ⟨(Nat.le_of_ble_eq_true rfl), (Nat.le_of_ble_eq_true rfl)⟩) [2] rfl (by decide +kernel) rfl rfl hl.1 (Nat.le_of_ble_eq_true rfl) dL_can_14 ⟨Nat.zero_le _, Nat.zero_le _⟩ ?_
    refine lv_iload hx hb dL_can_17 (lv_at hl 4 rfl) ?_
    refine lv_iadd hx hb dL_can_19 ?_
    refine lv_aload_n hx hb dL_can_20 rfl (lv_at hl 0 rfl) ?_
    refine lv_bipush (v := (9 : Int32)) hx hb dL_can_21 (by decide) ?_
    refine va_iald hx hb hK hP 0 0 rfl rfl (show ¬ ((9 : Int32) < 0 ∨ 15 ≤ (9 : Int32).toNatClampNeg) by decide) dL_can_23 ?_
    refine lv_icmp_le (tgt := 42) hx hb dL_can_24 (by decide) (fun hc4 => ?_) (fun hc4 => ?_)
    · replace hf := it hc4 hf
      refine lv_iconst (v := (0 : Int32)) hx hb dL_can_42 (by decide) ?_
      exact J43 (0 : Int32) ls (lv_sub hl [3] rfl) hf
    · replace hf := ie hc4 hf
      refine lv_aload_n hx hb dL_can_27 rfl (lv_at hl 2 rfl) ?_
      obtain ⟨q5, hq5, hf⟩ := ob hf
      refine cl_RS (As := [.ref bc]) (rest := []) hF hP hD (c_L_amounts bc vc q5 hq5) (va_cwS 1 hts gL_can_L_amounts rfl rfl rfl (by decide +kernel) ⟨(Nat.le_of_ble_eq_true rfl), (Nat.le_of_ble_eq_true rfl)⟩) [2] rfl (by decide +kernel) rfl rfl hl.1 (Nat.le_of_ble_eq_true rfl) dL_can_28 ⟨Nat.zero_le _, Nat.zero_le _⟩ ?_
      refine lv_iload hx hb dL_can_31 (lv_at hl 4 rfl) ?_
      refine lv_iadd hx hb dL_can_33 ?_
      refine lv_aload_n hx hb dL_can_34 rfl (lv_at hl 0 rfl) ?_
      refine lv_bipush (v := (9 : Int32)) hx hb dL_can_35 (by decide) ?_
      refine va_iald hx hb hK hP 0 0 rfl rfl (show ¬ ((9 : Int32) < 0 ∨ 15 ≤ (9 : Int32).toNatClampNeg) by decide) dL_can_37 ?_
      refine lv_isub hx hb dL_can_38 ?_
      refine lv_goto (tgt := 43) hx hb dL_can_39 (by decide) ?_
      exact J43 ((q5 + x4) - (vg (9 : Int32).toNatClampNeg)) ls (lv_sub hl [3] rfl) hf
  · replace hf := ie hc2 hf
    refine lv_ldc hx hb hown k1_ dL_can_10 ?_
    obtain rfl := Option.some.inj hf
    exact ret 12 ls _ dL_can_12 rfl rfl
abbrev rmL_grind : Room := { frames := 2, cells := 0, slots := 0, locals := 22 }
set_option maxHeartbeats 4000000 in
set_option maxRecDepth 100000 in
theorem c_L_grind (bg : Nat) (bu : Nat) (bh : Nat) (bc : Nat) (be : Nat) (x5 : Int32) (x6 : Int32) (vg : Nat → Int32) (vu : Nat → Int32) (vh : Nat → Int32) (vc : Nat → Int32) (ve : Nat → Int32) (R : (Nat → Int32) × (Nat → Int32) × (Nat → Int32) × (Nat → Int32) × (Nat → Int32)) (hf : f_L_grind x5 x6 vg vu vh vc ve = some R) : WrV l yL_grind wsL_grind rmL_grind D cI cC ([(bg, .inl (cI, 15, .inl vg)), (bu, .inl (cI, 8, .inl vu)), (bh, .inl (cI, 12, .inl vh)), (bc, .inl (cI, 64, .inl vc)), (be, .inl (cI, 64, .inl ve))] : va_W) ([(bg, .inl (cI, 15, .inl R.1)), (bu, .inl (cI, 8, .inl R.2.1)), (bh, .inl (cI, 12, .inl R.2.2.1)), (bc, .inl (cI, 64, .inl R.2.2.2.1)), (be, .inl (cI, 64, .inl R.2.2.2.2))] : va_W) [.ref bg, .ref bu, .ref bh, .ref bc, .ref be, .int x5, .int x6] := by
  refine en_V (cc := cL_grind) (n := 13) (by decide) rfl (Nat.le_of_ble_eq_true rfl) ?_
  intro p e s m args below meth c Q AA ls hx hb hml hown hts hK hN hP hD hS hl ret
  have hown : s.vm.findClass RL = some m.cls := hown
  have hF : FX p m c cL_grind 13 s args wsL_grind RL D cI cC := ⟨⟨hx, hb, hml, hown, hts⟩, hK, hN⟩
  have hl : lv_has ls 13 [(0, .ref bg), (1, .ref bu), (2, .ref bh), (3, .ref bc), (4, .ref be), (5, .int x5), (6, .int x6)] := hl
  have L244 : ∀ n244 : Nat, ∀ (y9_244 : Int32) (vg_244 : Nat → Int32) (vu_244 : Nat → Int32) (vh_244 : Nat → Int32) (vc_244 : Nat → Int32) (ve_244 : Nat → Int32) (H : Heap) (locs : List Loc), va_P D vwCl ([(bg, .inl (cI, 15, .inl vg_244)), (bu, .inl (cI, 8, .inl vu_244)), (bh, .inl (cI, 12, .inl vh_244)), (bc, .inl (cI, 64, .inl vc_244)), (be, .inl (cI, 64, .inl ve_244))] : va_W) H → va_D AA ([(bg, .inl (cI, 15, .inl vg_244)), (bu, .inl (cI, 8, .inl vu_244)), (bh, .inl (cI, 12, .inl vh_244)), (bc, .inl (cI, 64, .inl vc_244)), (be, .inl (cI, 64, .inl ve_244))] : va_W) → va_S AA s.heap H locs → ∀ ls : Array Slot, lv_has ls 13 [(0, .ref bg), (3, .ref bc), (4, .ref be), (9, .int y9_244)] → f_L_grind_L244 n244 y9_244 vg_244 vu_244 vh_244 vc_244 ve_244 = some R → W p l e rmL_grind s m args below meth c H locs 0 0 Q (F0 m 244 ls []) := by
    intro n244
    induction n244 with
    | zero => intro y9_244 vg_244 vu_244 vh_244 vc_244 ve_244 H locs hP hD hS ls hl hf; rw [f_L_grind_L244] at hf; cases hf
    | succ n244 IH244 =>
      intro y9_244 vg_244 vu_244 vh_244 vc_244 ve_244 H locs hP hD hS ls hl hf
      have J356 : ∀ (z0_356 : Int32) (z1_356 : Int32) (z2_356 : Int32) (vg_356 : Nat → Int32) (vu_356 : Nat → Int32) (vh_356 : Nat → Int32) (vc_356 : Nat → Int32) (ve_356 : Nat → Int32) (H : Heap) (locs : List Loc), va_P D vwCl ([(bg, .inl (cI, 15, .inl vg_356)), (bu, .inl (cI, 8, .inl vu_356)), (bh, .inl (cI, 12, .inl vh_356)), (bc, .inl (cI, 64, .inl vc_356)), (be, .inl (cI, 64, .inl ve_356))] : va_W) H → va_D AA ([(bg, .inl (cI, 15, .inl vg_356)), (bu, .inl (cI, 8, .inl vu_356)), (bh, .inl (cI, 12, .inl vh_356)), (bc, .inl (cI, 64, .inl vc_356)), (be, .inl (cI, 64, .inl ve_356))] : va_W) → va_S AA s.heap H locs → ∀ ls : Array Slot, lv_has ls 13 [(0, .ref bg), (3, .ref bc), (4, .ref be)] → f_L_grind_J356 (f_L_grind_L244 n244) z0_356 z1_356 z2_356 vg_356 vu_356 vh_356 vc_356 ve_356 = some R → W p l e rmL_grind s m args below meth c H locs 0 0 Q (F0 m 356 ls [.int z0_356, .int z1_356, .int z2_356, .ref bc]) := by
        intro z0_356 z1_356 z2_356 vg_356 vu_356 vh_356 vc_356 ve_356 H locs hP hD hS ls hl hf
        rw [f_L_grind_J356] at hf
        refine lv_isub hx hb dL_grind_356 ?_
        refine lv_topi (fun v63 ev63 => ?_)
        replace hf := lt_e ev63 hf
        obtain ⟨hg64, hf⟩ := gd_s hf
        refine x_iast hx hb hK hP hD hS 3 0 rfl rfl hg64 dL_grind_357 (fun Z65 H locs eZ65 hP hD hS => ?_)
        replace hf := lt_e eZ65 hf
        have hP : va_P D vwCl ([(bg, .inl (cI, 15, .inl vg_356)), (bu, .inl (cI, 8, .inl vu_356)), (bh, .inl (cI, 12, .inl vh_356)), (bc, .inl (cI, 64, .inl Z65)), (be, .inl (cI, 64, .inl ve_356))] : va_W) H := hP
        have hD : va_D AA ([(bg, .inl (cI, 15, .inl vg_356)), (bu, .inl (cI, 8, .inl vu_356)), (bh, .inl (cI, 12, .inl vh_356)), (bc, .inl (cI, 64, .inl Z65)), (be, .inl (cI, 64, .inl ve_356))] : va_W) := hD
        refine lv_aload_n hx hb dL_grind_358 rfl (lv_at hl 1 rfl) ?_
        obtain ⟨q66, hq66, hf⟩ := ob hf
        refine cl_RS (As := [.ref bc]) (rest := []) hF hP hD (c_L_amounts bc Z65 q66 hq66) (va_cwS 1 hts gL_grind_L_amounts rfl rfl rfl (by decide +kernel) ⟨(Nat.le_of_ble_eq_true rfl), (Nat.le_of_ble_eq_true rfl)⟩) [3] rfl (by decide +kernel) rfl rfl hl.1 (Nat.le_of_ble_eq_true rfl) dL_grind_359 ⟨Nat.zero_le _, Nat.zero_le _⟩ ?_
        refine lv_aload_n hx hb dL_grind_362 rfl (lv_at hl 0 rfl) ?_
        refine lv_bipush (v := (9 : Int32)) hx hb dL_grind_363 (by decide) ?_
        refine va_iald hx hb hK hP 0 0 rfl rfl (show ¬ ((9 : Int32) < 0 ∨ 15 ≤ (9 : Int32).toNatClampNeg) by decide) dL_grind_365 ?_
        refine lv_isub hx hb dL_grind_366 ?_
        refine lv_topi (fun v67 ev67 => ?_)
        replace hf := lt_e ev67 hf
        refine lv_istore (lv' := [(9, .int v67), (0, .ref bg), (3, .ref bc), (4, .ref be)]) hx hb dL_grind_367 hl (by decide) rfl (fun ls hl => ?_)
        refine lv_goto (tgt := 244) hx hb dL_grind_369 (by decide) ?_
        exact IH244 v67 vg_356 vu_356 vh_356 Z65 ve_356 H locs hP hD hS ls (lv_sub hl [1, 2, 3, 0] rfl) hf
      have J340 : ∀ (y10_340 : Int32) (y11_340 : Int32) (vg_340 : Nat → Int32) (vu_340 : Nat → Int32) (vh_340 : Nat → Int32) (vc_340 : Nat → Int32) (ve_340 : Nat → Int32) (H : Heap) (locs : List Loc), va_P D vwCl ([(bg, .inl (cI, 15, .inl vg_340)), (bu, .inl (cI, 8, .inl vu_340)), (bh, .inl (cI, 12, .inl vh_340)), (bc, .inl (cI, 64, .inl vc_340)), (be, .inl (cI, 64, .inl ve_340))] : va_W) H → va_D AA ([(bg, .inl (cI, 15, .inl vg_340)), (bu, .inl (cI, 8, .inl vu_340)), (bh, .inl (cI, 12, .inl vh_340)), (bc, .inl (cI, 64, .inl vc_340)), (be, .inl (cI, 64, .inl ve_340))] : va_W) → va_S AA s.heap H locs → ∀ ls : Array Slot, lv_has ls 13 [(0, .ref bg), (3, .ref bc), (4, .ref be), (10, .int y10_340), (11, .int y11_340)] → f_L_grind_J340 (f_L_grind_L244 n244) y10_340 y11_340 vg_340 vu_340 vh_340 vc_340 ve_340 = some R → W p l e rmL_grind s m args below meth c H locs 0 0 Q (F0 m 340 ls []) := by
        intro y10_340 y11_340 vg_340 vu_340 vh_340 vc_340 ve_340 H locs hP hD hS ls hl hf
        rw [f_L_grind_J340] at hf
        refine lv_aload_n hx hb dL_grind_340 rfl (lv_at hl 1 rfl) ?_
        refine lv_iconst (v := (0 : Int32)) hx hb dL_grind_341 (by decide) ?_
        refine lv_dup2_11 hx hb dL_grind_342 rfl rfl ?_
        refine va_iald hx hb hK hP 3 0 rfl rfl (show ¬ ((0 : Int32) < 0 ∨ 64 ≤ (0 : Int32).toNatClampNeg) by decide) dL_grind_343 ?_
        refine lv_iload hx hb dL_grind_344 (lv_at hl 4 rfl) ?_
        refine lv_iload hx hb dL_grind_346 (lv_at hl 3 rfl) ?_
        refine lv_icmp_ne (tgt := 355) hx hb dL_grind_348 (by decide) (fun hc59 => ?_) (fun hc59 => ?_)
        · replace hf := ie hc59 hf
          refine lv_iconst (v := (0 : Int32)) hx hb dL_grind_355 (by decide) ?_
          exact J356 (0 : Int32) (vc_340 (0 : Int32).toNatClampNeg) (0 : Int32) vg_340 vu_340 vh_340 vc_340 ve_340 H locs hP hD hS ls (lv_sub hl [0, 1, 2] rfl) hf
        · replace hf := it hc59 hf
          refine lv_iconst (v := (1 : Int32)) hx hb dL_grind_351 (by decide) ?_
          refine lv_goto (tgt := 356) hx hb dL_grind_352 (by decide) ?_
          exact J356 (1 : Int32) (vc_340 (0 : Int32).toNatClampNeg) (0 : Int32) vg_340 vu_340 vh_340 vc_340 ve_340 H locs hP hD hS ls (lv_sub hl [0, 1, 2] rfl) hf
      have L309 : ∀ n309 : Nat, ∀ (y10_309 : Int32) (y11_309 : Int32) (y12_309 : Int32) (vg_309 : Nat → Int32) (vu_309 : Nat → Int32) (vh_309 : Nat → Int32) (vc_309 : Nat → Int32) (ve_309 : Nat → Int32) (H : Heap) (locs : List Loc), va_P D vwCl ([(bg, .inl (cI, 15, .inl vg_309)), (bu, .inl (cI, 8, .inl vu_309)), (bh, .inl (cI, 12, .inl vh_309)), (bc, .inl (cI, 64, .inl vc_309)), (be, .inl (cI, 64, .inl ve_309))] : va_W) H → va_D AA ([(bg, .inl (cI, 15, .inl vg_309)), (bu, .inl (cI, 8, .inl vu_309)), (bh, .inl (cI, 12, .inl vh_309)), (bc, .inl (cI, 64, .inl vc_309)), (be, .inl (cI, 64, .inl ve_309))] : va_W) → va_S AA s.heap H locs → ∀ ls : Array Slot, lv_has ls 13 [(0, .ref bg), (3, .ref bc), (4, .ref be), (10, .int y10_309), (11, .int y11_309), (12, .int y12_309)] → f_L_grind_L309 (f_L_grind_L244 n244) y10_309 y11_309 n309 y12_309 vg_309 vu_309 vh_309 vc_309 ve_309 = some R → W p l e rmL_grind s m args below meth c H locs 0 0 Q (F0 m 309 ls []) := by
        intro n309
        induction n309 with
        | zero => intro y10_309 y11_309 y12_309 vg_309 vu_309 vh_309 vc_309 ve_309 H locs hP hD hS ls hl hf; rw [f_L_grind_L309] at hf; cases hf
        | succ n309 IH309 =>
          intro y10_309 y11_309 y12_309 vg_309 vu_309 vh_309 vc_309 ve_309 H locs hP hD hS ls hl hf
          rw [f_L_grind_L309] at hf
          refine lv_iload hx hb dL_grind_309 (lv_at hl 5 rfl) ?_
          refine lv_aload_n hx hb dL_grind_311 rfl (lv_at hl 1 rfl) ?_
          refine lv_iconst (v := (0 : Int32)) hx hb dL_grind_312 (by decide) ?_
          refine va_iald hx hb hK hP 3 0 rfl rfl (show ¬ ((0 : Int32) < 0 ∨ 64 ≤ (0 : Int32).toNatClampNeg) by decide) dL_grind_313 ?_
          refine lv_icmp_ge (tgt := 340) hx hb dL_grind_314 (by decide) (fun hc51 => ?_) (fun hc51 => ?_)
          · replace hf := it hc51 hf
            exact J340 y10_309 y11_309 vg_309 vu_309 vh_309 vc_309 ve_309 H locs hP hD hS ls (lv_sub hl [0, 1, 2, 3, 4] rfl) hf
          · replace hf := ie hc51 hf
            refine lv_iload hx hb dL_grind_317 (lv_at hl 4 rfl) ?_
            refine lv_iload hx hb dL_grind_319 (lv_at hl 3 rfl) ?_
            refine lv_icmp_ne (tgt := 340) hx hb dL_grind_321 (by decide) (fun hc52 => ?_) (fun hc52 => ?_)
            · replace hf := ie hc52 hf
              exact J340 y10_309 y11_309 vg_309 vu_309 vh_309 vc_309 ve_309 H locs hP hD hS ls (lv_sub hl [0, 1, 2, 3, 4] rfl) hf
            · replace hf := it hc52 hf
              refine lv_aload_n hx hb dL_grind_324 rfl (lv_at hl 1 rfl) ?_
              refine lv_iload hx hb dL_grind_325 (lv_at hl 5 rfl) ?_
              refine lv_aload_n hx hb dL_grind_327 rfl (lv_at hl 1 rfl) ?_
              refine lv_iload hx hb dL_grind_328 (lv_at hl 5 rfl) ?_
              refine lv_iconst (v := (1 : Int32)) hx hb dL_grind_330 (by decide) ?_
              refine lv_iadd hx hb dL_grind_331 ?_
              obtain ⟨hg53, hf⟩ := gd_s hf
              refine va_iald hx hb hK hP 3 0 rfl rfl hg53 dL_grind_332 ?_
              refine lv_topi (fun v54 ev54 => ?_)
              replace hf := lt_e ev54 hf
              obtain ⟨hg55, hf⟩ := gd_s hf
              refine x_iast hx hb hK hP hD hS 3 0 rfl rfl hg55 dL_grind_333 (fun Z56 H locs eZ56 hP hD hS => ?_)
              replace hf := lt_e eZ56 hf
              have hP : va_P D vwCl ([(bg, .inl (cI, 15, .inl vg_309)), (bu, .inl (cI, 8, .inl vu_309)), (bh, .inl (cI, 12, .inl vh_309)), (bc, .inl (cI, 64, .inl Z56)), (be, .inl (cI, 64, .inl ve_309))] : va_W) H := hP
              have hD : va_D AA ([(bg, .inl (cI, 15, .inl vg_309)), (bu, .inl (cI, 8, .inl vu_309)), (bh, .inl (cI, 12, .inl vh_309)), (bc, .inl (cI, 64, .inl Z56)), (be, .inl (cI, 64, .inl ve_309))] : va_W) := hD
              obtain ⟨v57, ev57⟩ : ∃ z : Int32, z = y12_309 + (1 : Int32) := ⟨_, rfl⟩
              replace hf := lt_e ev57 hf
              refine lv_iinc (v := v57) (lv' := [(12, .int v57), (0, .ref bg), (3, .ref bc), (4, .ref be), (10, .int y10_309), (11, .int y11_309)]) hx hb dL_grind_334 hl (k := 5) rfl (by rw [ev57]; rfl) (by decide) rfl (fun ls hl => ?_)
              refine lv_goto (tgt := 309) hx hb dL_grind_337 (by decide) ?_
              exact IH309 y10_309 y11_309 v57 vg_309 vu_309 vh_309 Z56 ve_309 H locs hP hD hS ls (lv_sub hl [1, 2, 3, 4, 5, 0] rfl) hf
      have J272 : ∀ (y10_272 : Int32) (z0_272 : Int32) (vg_272 : Nat → Int32) (vu_272 : Nat → Int32) (vh_272 : Nat → Int32) (vc_272 : Nat → Int32) (ve_272 : Nat → Int32) (H : Heap) (locs : List Loc), va_P D vwCl ([(bg, .inl (cI, 15, .inl vg_272)), (bu, .inl (cI, 8, .inl vu_272)), (bh, .inl (cI, 12, .inl vh_272)), (bc, .inl (cI, 64, .inl vc_272)), (be, .inl (cI, 64, .inl ve_272))] : va_W) H → va_D AA ([(bg, .inl (cI, 15, .inl vg_272)), (bu, .inl (cI, 8, .inl vu_272)), (bh, .inl (cI, 12, .inl vh_272)), (bc, .inl (cI, 64, .inl vc_272)), (be, .inl (cI, 64, .inl ve_272))] : va_W) → va_S AA s.heap H locs → ∀ ls : Array Slot, lv_has ls 13 [(0, .ref bg), (3, .ref bc), (4, .ref be), (10, .int y10_272)] → f_L_grind_J272 (f_L_grind_L244 n244) y10_272 z0_272 vg_272 vu_272 vh_272 vc_272 ve_272 = some R → W p l e rmL_grind s m args below meth c H locs 0 0 Q (F0 m 272 ls [.int z0_272]) := by
        intro y10_272 z0_272 vg_272 vu_272 vh_272 vc_272 ve_272 H locs hP hD hS ls hl hf
        rw [f_L_grind_J272] at hf
        refine lv_istore (lv' := [(11, .int z0_272), (0, .ref bg), (3, .ref bc), (4, .ref be), (10, .int y10_272)]) hx hb dL_grind_272 hl (by decide) rfl (fun ls hl => ?_)
        refine lv_aload hx hb dL_grind_274 (lv_at hl 3 rfl) ?_
        refine lv_iconst (v := (0 : Int32)) hx hb dL_grind_276 (by decide) ?_
        refine lv_dup2_11 hx hb dL_grind_277 rfl rfl ?_
        refine va_iald hx hb hK hP 4 0 rfl rfl (show ¬ ((0 : Int32) < 0 ∨ 64 ≤ (0 : Int32).toNatClampNeg) by decide) dL_grind_278 ?_
        refine lv_iconst (v := (1 : Int32)) hx hb dL_grind_279 (by decide) ?_
        refine lv_iadd hx hb dL_grind_280 ?_
        refine lv_topi (fun v37 ev37 => ?_)
        replace hf := lt_e ev37 hf
        refine x_iast hx hb hK hP hD hS 4 0 rfl rfl (show ¬ ((0 : Int32) < 0 ∨ 64 ≤ (0 : Int32).toNatClampNeg) by decide) dL_grind_281 (fun Z38 H locs eZ38 hP hD hS => ?_)
        replace hf := lt_e eZ38 hf
        have hP : va_P D vwCl ([(bg, .inl (cI, 15, .inl vg_272)), (bu, .inl (cI, 8, .inl vu_272)), (bh, .inl (cI, 12, .inl vh_272)), (bc, .inl (cI, 64, .inl vc_272)), (be, .inl (cI, 64, .inl Z38))] : va_W) H := hP
        have hD : va_D AA ([(bg, .inl (cI, 15, .inl vg_272)), (bu, .inl (cI, 8, .inl vu_272)), (bh, .inl (cI, 12, .inl vh_272)), (bc, .inl (cI, 64, .inl vc_272)), (be, .inl (cI, 64, .inl Z38))] : va_W) := hD
        refine lv_aload hx hb dL_grind_282 (lv_at hl 3 rfl) ?_
        refine lv_aload hx hb dL_grind_284 (lv_at hl 3 rfl) ?_
        refine lv_iconst (v := (0 : Int32)) hx hb dL_grind_286 (by decide) ?_
        refine va_iald hx hb hK hP 4 0 rfl rfl (show ¬ ((0 : Int32) < 0 ∨ 64 ≤ (0 : Int32).toNatClampNeg) by decide) dL_grind_287 ?_
        refine lv_aload_n hx hb dL_grind_288 rfl (lv_at hl 2 rfl) ?_
        refine lv_iconst (v := (1 : Int32)) hx hb dL_grind_289 (by decide) ?_
        refine va_iald hx hb hK hP 3 0 rfl rfl (show ¬ ((1 : Int32) < 0 ∨ 64 ≤ (1 : Int32).toNatClampNeg) by decide) dL_grind_290 ?_
        refine lv_iload hx hb dL_grind_291 (lv_at hl 4 rfl) ?_
        refine lv_isub hx hb dL_grind_293 ?_
        refine lv_iload hx hb dL_grind_294 (lv_at hl 0 rfl) ?_
        refine lv_iadd hx hb dL_grind_296 ?_
        refine lv_topi (fun v39 ev39 => ?_)
        replace hf := lt_e ev39 hf
        obtain ⟨hg40, hf⟩ := gd_s hf
        refine x_iast hx hb hK hP hD hS 4 0 rfl rfl hg40 dL_grind_297 (fun Z41 H locs eZ41 hP hD hS => ?_)
        replace hf := lt_e eZ41 hf
        have hP : va_P D vwCl ([(bg, .inl (cI, 15, .inl vg_272)), (bu, .inl (cI, 8, .inl vu_272)), (bh, .inl (cI, 12, .inl vh_272)), (bc, .inl (cI, 64, .inl vc_272)), (be, .inl (cI, 64, .inl Z41))] : va_W) H := hP
        have hD : va_D AA ([(bg, .inl (cI, 15, .inl vg_272)), (bu, .inl (cI, 8, .inl vu_272)), (bh, .inl (cI, 12, .inl vh_272)), (bc, .inl (cI, 64, .inl vc_272)), (be, .inl (cI, 64, .inl Z41))] : va_W) := hD
        refine lv_aload_n hx hb dL_grind_298 rfl (lv_at hl 2 rfl) ?_
        refine lv_iconst (v := (1 : Int32)) hx hb dL_grind_299 (by decide) ?_
        refine lv_dup2_11 hx hb dL_grind_300 rfl rfl ?_
        refine va_iald hx hb hK hP 3 0 rfl rfl (show ¬ ((1 : Int32) < 0 ∨ 64 ≤ (1 : Int32).toNatClampNeg) by decide) dL_grind_301 ?_
        refine lv_iload hx hb dL_grind_302 (lv_at hl 0 rfl) ?_
        refine lv_isub hx hb dL_grind_304 ?_
        refine lv_topi (fun v42 ev42 => ?_)
        replace hf := lt_e ev42 hf
        refine x_iast hx hb hK hP hD hS 3 0 rfl rfl (show ¬ ((1 : Int32) < 0 ∨ 64 ≤ (1 : Int32).toNatClampNeg) by decide) dL_grind_305 (fun Z43 H locs eZ43 hP hD hS => ?_)
        replace hf := lt_e eZ43 hf
        have hP : va_P D vwCl ([(bg, .inl (cI, 15, .inl vg_272)), (bu, .inl (cI, 8, .inl vu_272)), (bh, .inl (cI, 12, .inl vh_272)), (bc, .inl (cI, 64, .inl Z43)), (be, .inl (cI, 64, .inl Z41))] : va_W) H := hP
        have hD : va_D AA ([(bg, .inl (cI, 15, .inl vg_272)), (bu, .inl (cI, 8, .inl vu_272)), (bh, .inl (cI, 12, .inl vh_272)), (bc, .inl (cI, 64, .inl Z43)), (be, .inl (cI, 64, .inl Z41))] : va_W) := hD
        refine lv_iconst (v := (1 : Int32)) hx hb dL_grind_306 (by decide) ?_
        refine lv_istore (lv' := [(12, .int (1 : Int32)), (11, .int z0_272), (0, .ref bg), (3, .ref bc), (4, .ref be), (10, .int y10_272)]) hx hb dL_grind_307 hl (by decide) rfl (fun ls hl => ?_)
        exact L309 FU y10_272 z0_272 (1 : Int32) vg_272 vu_272 vh_272 Z43 Z41 H locs hP hD hS ls (lv_sub hl [2, 3, 4, 5, 1, 0] rfl) hf
      rw [f_L_grind_L244] at hf
      refine lv_iload hx hb dL_grind_244 (lv_at hl 3 rfl) ?_
      refine lv_if_le (tgt := 372) hx hb dL_grind_246 (by decide) (fun hc34 => ?_) (fun hc34 => ?_)
      · replace hf := it hc34 hf
        obtain rfl := Option.some.inj hf
        exact ret 372 ls H locs dL_grind_372 hP hS
      · replace hf := ie hc34 hf
        refine lv_aload_n hx hb dL_grind_249 rfl (lv_at hl 1 rfl) ?_
        refine lv_iconst (v := (1 : Int32)) hx hb dL_grind_250 (by decide) ?_
        refine va_iald hx hb hK hP 3 0 rfl rfl (show ¬ ((1 : Int32) < 0 ∨ 64 ≤ (1 : Int32).toNatClampNeg) by decide) dL_grind_251 ?_
        refine lv_sipush (v := (1000 : Int32)) hx hb dL_grind_252 (by decide) ?_
        refine lv_irem hx hb dL_grind_255 (by decide) ?_
        refine lv_topi (fun v35 ev35 => ?_)
        replace hf := lt_e ev35 hf
        refine lv_istore (lv' := [(10, .int v35), (0, .ref bg), (3, .ref bc), (4, .ref be), (9, .int y9_244)]) hx hb dL_grind_256 hl (by decide) rfl (fun ls hl => ?_)
        refine lv_iload hx hb dL_grind_258 (lv_at hl 0 rfl) ?_
        refine lv_iload hx hb dL_grind_260 (lv_at hl 4 rfl) ?_
        refine lv_icmp_ge (tgt := 270) hx hb dL_grind_262 (by decide) (fun hc36 => ?_) (fun hc36 => ?_)
        · replace hf := it hc36 hf
          refine lv_iload hx hb dL_grind_270 (lv_at hl 4 rfl) ?_
          exact J272 v35 y9_244 vg_244 vu_244 vh_244 vc_244 ve_244 H locs hP hD hS ls (lv_sub hl [1, 2, 3, 0] rfl) hf
        · replace hf := ie hc36 hf
          refine lv_iload hx hb dL_grind_265 (lv_at hl 0 rfl) ?_
          refine lv_goto (tgt := 272) hx hb dL_grind_267 (by decide) ?_
          exact J272 v35 v35 vg_244 vu_244 vh_244 vc_244 ve_244 H locs hP hD hS ls (lv_sub hl [1, 2, 3, 0] rfl) hf
  have J211 : ∀ (y5_211 : Int32) (y6_211 : Int32) (z0_211 : Int32) (z1_211 : Int32) (vg_211 : Nat → Int32) (vu_211 : Nat → Int32) (vh_211 : Nat → Int32) (vc_211 : Nat → Int32) (ve_211 : Nat → Int32) (H : Heap) (locs : List Loc), va_P D vwCl ([(bg, .inl (cI, 15, .inl vg_211)), (bu, .inl (cI, 8, .inl vu_211)), (bh, .inl (cI, 12, .inl vh_211)), (bc, .inl (cI, 64, .inl vc_211)), (be, .inl (cI, 64, .inl ve_211))] : va_W) H → va_D AA ([(bg, .inl (cI, 15, .inl vg_211)), (bu, .inl (cI, 8, .inl vu_211)), (bh, .inl (cI, 12, .inl vh_211)), (bc, .inl (cI, 64, .inl vc_211)), (be, .inl (cI, 64, .inl ve_211))] : va_W) → va_S AA s.heap H locs → ∀ ls : Array Slot, lv_has ls 13 [(0, .ref bg), (1, .ref bu), (3, .ref bc), (4, .ref be), (5, .int y5_211), (6, .int y6_211)] → f_L_grind_J211 y5_211 y6_211 z0_211 z1_211 vg_211 vu_211 vh_211 vc_211 ve_211 = some R → W p l e rmL_grind s m args below meth c H locs 0 0 Q (F0 m 211 ls [.int z0_211, .int z1_211, .ref bu]) := by
    intro y5_211 y6_211 z0_211 z1_211 vg_211 vu_211 vh_211 vc_211 ve_211 H locs hP hD hS ls hl hf
    rw [f_L_grind_J211] at hf
    obtain ⟨hg14, hf⟩ := gd_s hf
    refine x_iast hx hb hK hP hD hS 1 0 rfl rfl hg14 dL_grind_211 (fun Z15 H locs eZ15 hP hD hS => ?_)
    replace hf := lt_e eZ15 hf
    have hP : va_P D vwCl ([(bg, .inl (cI, 15, .inl vg_211)), (bu, .inl (cI, 8, .inl Z15)), (bh, .inl (cI, 12, .inl vh_211)), (bc, .inl (cI, 64, .inl vc_211)), (be, .inl (cI, 64, .inl ve_211))] : va_W) H := hP
    have hD : va_D AA ([(bg, .inl (cI, 15, .inl vg_211)), (bu, .inl (cI, 8, .inl Z15)), (bh, .inl (cI, 12, .inl vh_211)), (bc, .inl (cI, 64, .inl vc_211)), (be, .inl (cI, 64, .inl ve_211))] : va_W) := hD
    refine lv_aload_n hx hb dL_grind_212 rfl (lv_at hl 1 rfl) ?_
    refine lv_iconst (v := (4 : Int32)) hx hb dL_grind_213 (by decide) ?_
    refine lv_iload hx hb dL_grind_214 (lv_at hl 4 rfl) ?_
    refine lv_imul hx hb dL_grind_216 ?_
    refine lv_iconst (v := (2 : Int32)) hx hb dL_grind_217 (by decide) ?_
    refine lv_iadd hx hb dL_grind_218 ?_
    refine lv_topi (fun v16 ev16 => ?_)
    replace hf := lt_e ev16 hf
    refine lv_dup2_11 hx hb dL_grind_219 rfl rfl ?_
    obtain ⟨hg17, hf⟩ := gd_s hf
    refine va_iald hx hb hK hP 1 0 rfl rfl hg17 dL_grind_220 ?_
    refine lv_iload hx hb dL_grind_221 (lv_at hl 5 rfl) ?_
    refine lv_iadd hx hb dL_grind_223 ?_
    refine lv_topi (fun v18 ev18 => ?_)
    replace hf := lt_e ev18 hf
    obtain ⟨hg19, hf⟩ := gd_s hf
    refine x_iast hx hb hK hP hD hS 1 0 rfl rfl hg19 dL_grind_224 (fun Z20 H locs eZ20 hP hD hS => ?_)
    replace hf := lt_e eZ20 hf
    have hP : va_P D vwCl ([(bg, .inl (cI, 15, .inl vg_211)), (bu, .inl (cI, 8, .inl Z20)), (bh, .inl (cI, 12, .inl vh_211)), (bc, .inl (cI, 64, .inl vc_211)), (be, .inl (cI, 64, .inl ve_211))] : va_W) H := hP
    have hD : va_D AA ([(bg, .inl (cI, 15, .inl vg_211)), (bu, .inl (cI, 8, .inl Z20)), (bh, .inl (cI, 12, .inl vh_211)), (bc, .inl (cI, 64, .inl vc_211)), (be, .inl (cI, 64, .inl ve_211))] : va_W) := hD
    refine lv_aload_n hx hb dL_grind_225 rfl (lv_at hl 0 rfl) ?_
    refine lv_iconst (v := (2 : Int32)) hx hb dL_grind_226 (by decide) ?_
    refine lv_dup2_11 hx hb dL_grind_227 rfl rfl ?_
    refine va_iald hx hb hK hP 0 0 rfl rfl (show ¬ ((2 : Int32) < 0 ∨ 15 ≤ (2 : Int32).toNatClampNeg) by decide) dL_grind_228 ?_
    refine lv_iload hx hb dL_grind_229 (lv_at hl 5 rfl) ?_
    refine lv_iadd hx hb dL_grind_231 ?_
    refine lv_topi (fun v21 ev21 => ?_)
    replace hf := lt_e ev21 hf
    refine x_iast hx hb hK hP hD hS 0 0 rfl rfl (show ¬ ((2 : Int32) < 0 ∨ 15 ≤ (2 : Int32).toNatClampNeg) by decide) dL_grind_232 (fun Z22 H locs eZ22 hP hD hS => ?_)
    replace hf := lt_e eZ22 hf
    have hP : va_P D vwCl ([(bg, .inl (cI, 15, .inl Z22)), (bu, .inl (cI, 8, .inl Z20)), (bh, .inl (cI, 12, .inl vh_211)), (bc, .inl (cI, 64, .inl vc_211)), (be, .inl (cI, 64, .inl ve_211))] : va_W) H := hP
    have hD : va_D AA ([(bg, .inl (cI, 15, .inl Z22)), (bu, .inl (cI, 8, .inl Z20)), (bh, .inl (cI, 12, .inl vh_211)), (bc, .inl (cI, 64, .inl vc_211)), (be, .inl (cI, 64, .inl ve_211))] : va_W) := hD
    refine lv_aload_n hx hb dL_grind_233 rfl (lv_at hl 2 rfl) ?_
    obtain ⟨q23, hq23, hf⟩ := ob hf
    refine cl_RS (As := [.ref bc]) (rest := []) hF hP hD (c_L_amounts bc vc_211 q23 hq23) (va_cwS 1 hts gL_grind_L_amounts rfl rfl rfl (by decide +kernel) ⟨(Nat.le_of_ble_eq_true rfl), (Nat.le_of_ble_eq_true rfl)⟩) [3] rfl (by decide +kernel) rfl rfl hl.1 (Nat.le_of_ble_eq_true rfl) dL_grind_234 ⟨Nat.zero_le _, Nat.zero_le _⟩ ?_
    refine lv_aload_n hx hb dL_grind_237 rfl (lv_at hl 0 rfl) ?_
    refine lv_bipush (v := (9 : Int32)) hx hb dL_grind_238 (by decide) ?_
    refine va_iald hx hb hK hP 0 0 rfl rfl (show ¬ ((9 : Int32) < 0 ∨ 15 ≤ (9 : Int32).toNatClampNeg) by decide) dL_grind_240 ?_
    refine lv_isub hx hb dL_grind_241 ?_
    refine lv_topi (fun v24 ev24 => ?_)
    replace hf := lt_e ev24 hf
    refine lv_istore (lv' := [(9, .int v24), (0, .ref bg), (1, .ref bu), (3, .ref bc), (4, .ref be), (5, .int y5_211), (6, .int y6_211)]) hx hb dL_grind_242 hl (by decide) rfl (fun ls hl => ?_)
    exact L244 FU v24 Z22 Z20 vh_211 vc_211 ve_211 H locs hP hD hS ls (lv_sub hl [1, 3, 4, 0] rfl) hf
  have L23 : ∀ n23 : Nat, ∀ (y5_23 : Int32) (y6_23 : Int32) (y7_23 : Int32) (y8_23 : Int32) (vg_23 : Nat → Int32) (vu_23 : Nat → Int32) (vh_23 : Nat → Int32) (vc_23 : Nat → Int32) (ve_23 : Nat → Int32) (H : Heap) (locs : List Loc), va_P D vwCl ([(bg, .inl (cI, 15, .inl vg_23)), (bu, .inl (cI, 8, .inl vu_23)), (bh, .inl (cI, 12, .inl vh_23)), (bc, .inl (cI, 64, .inl vc_23)), (be, .inl (cI, 64, .inl ve_23))] : va_W) H → va_D AA ([(bg, .inl (cI, 15, .inl vg_23)), (bu, .inl (cI, 8, .inl vu_23)), (bh, .inl (cI, 12, .inl vh_23)), (bc, .inl (cI, 64, .inl vc_23)), (be, .inl (cI, 64, .inl ve_23))] : va_W) → va_S AA s.heap H locs → ∀ ls : Array Slot, lv_has ls 13 [(0, .ref bg), (1, .ref bu), (2, .ref bh), (3, .ref bc), (4, .ref be), (5, .int y5_23), (6, .int y6_23), (7, .int y7_23), (8, .int y8_23)] → f_L_grind_L23 y5_23 y6_23 y7_23 n23 y8_23 vg_23 vu_23 vh_23 vc_23 ve_23 = some R → W p l e rmL_grind s m args below meth c H locs 0 0 Q (F0 m 23 ls []) := by
    intro n23
    induction n23 with
    | zero => intro y5_23 y6_23 y7_23 y8_23 vg_23 vu_23 vh_23 vc_23 ve_23 H locs hP hD hS ls hl hf; rw [f_L_grind_L23] at hf; cases hf
    | succ n23 IH23 =>
      intro y5_23 y6_23 y7_23 y8_23 vg_23 vu_23 vh_23 vc_23 ve_23 H locs hP hD hS ls hl hf
      have J156 : ∀ (y8_156 : Int32) (z0_156 : Int32) (z1_156 : Int32) (z2_156 : Int32) (vg_156 : Nat → Int32) (vu_156 : Nat → Int32) (vh_156 : Nat → Int32) (vc_156 : Nat → Int32) (ve_156 : Nat → Int32) (H : Heap) (locs : List Loc), va_P D vwCl ([(bg, .inl (cI, 15, .inl vg_156)), (bu, .inl (cI, 8, .inl vu_156)), (bh, .inl (cI, 12, .inl vh_156)), (bc, .inl (cI, 64, .inl vc_156)), (be, .inl (cI, 64, .inl ve_156))] : va_W) H → va_D AA ([(bg, .inl (cI, 15, .inl vg_156)), (bu, .inl (cI, 8, .inl vu_156)), (bh, .inl (cI, 12, .inl vh_156)), (bc, .inl (cI, 64, .inl vc_156)), (be, .inl (cI, 64, .inl ve_156))] : va_W) → va_S AA s.heap H locs → ∀ ls : Array Slot, lv_has ls 13 [(0, .ref bg), (1, .ref bu), (2, .ref bh), (3, .ref bc), (4, .ref be), (5, .int y5_23), (6, .int y6_23), (7, .int y7_23), (8, .int y8_156)] → f_L_grind_J156 (f_L_grind_L23 y5_23 y6_23 y7_23 n23) y5_23 y6_23 y7_23 y8_156 z0_156 z1_156 z2_156 vg_156 vu_156 vh_156 vc_156 ve_156 = some R → W p l e rmL_grind s m args below meth c H locs 0 0 Q (F0 m 156 ls [.int z0_156, .int z1_156, .int z2_156, .ref bg]) := by
        intro y8_156 z0_156 z1_156 z2_156 vg_156 vu_156 vh_156 vc_156 ve_156 H locs hP hD hS ls hl hf
        rw [f_L_grind_J156] at hf
        refine lv_isub hx hb dL_grind_156 ?_
        refine lv_topi (fun v60 ev60 => ?_)
        replace hf := lt_e ev60 hf
        obtain ⟨hg61, hf⟩ := gd_s hf
        refine x_iast hx hb hK hP hD hS 0 0 rfl rfl hg61 dL_grind_157 (fun Z62 H locs eZ62 hP hD hS => ?_)
        replace hf := lt_e eZ62 hf
        have hP : va_P D vwCl ([(bg, .inl (cI, 15, .inl Z62)), (bu, .inl (cI, 8, .inl vu_156)), (bh, .inl (cI, 12, .inl vh_156)), (bc, .inl (cI, 64, .inl vc_156)), (be, .inl (cI, 64, .inl ve_156))] : va_W) H := hP
        have hD : va_D AA ([(bg, .inl (cI, 15, .inl Z62)), (bu, .inl (cI, 8, .inl vu_156)), (bh, .inl (cI, 12, .inl vh_156)), (bc, .inl (cI, 64, .inl vc_156)), (be, .inl (cI, 64, .inl ve_156))] : va_W) := hD
        refine lv_goto (tgt := 23) hx hb dL_grind_158 (by decide) ?_
        exact IH23 y5_23 y6_23 y7_23 y8_156 Z62 vu_156 vh_156 vc_156 ve_156 H locs hP hD hS ls (lv_sub hl [0, 1, 2, 3, 4, 5, 6, 7, 8] rfl) hf
      have J141 : ∀ (y8_141 : Int32) (y10_141 : Int32) (vg_141 : Nat → Int32) (vu_141 : Nat → Int32) (vh_141 : Nat → Int32) (vc_141 : Nat → Int32) (ve_141 : Nat → Int32) (H : Heap) (locs : List Loc), va_P D vwCl ([(bg, .inl (cI, 15, .inl vg_141)), (bu, .inl (cI, 8, .inl vu_141)), (bh, .inl (cI, 12, .inl vh_141)), (bc, .inl (cI, 64, .inl vc_141)), (be, .inl (cI, 64, .inl ve_141))] : va_W) H → va_D AA ([(bg, .inl (cI, 15, .inl vg_141)), (bu, .inl (cI, 8, .inl vu_141)), (bh, .inl (cI, 12, .inl vh_141)), (bc, .inl (cI, 64, .inl vc_141)), (be, .inl (cI, 64, .inl ve_141))] : va_W) → va_S AA s.heap H locs → ∀ ls : Array Slot, lv_has ls 13 [(0, .ref bg), (1, .ref bu), (2, .ref bh), (3, .ref bc), (4, .ref be), (5, .int y5_23), (6, .int y6_23), (7, .int y7_23), (8, .int y8_141), (10, .int y10_141)] → f_L_grind_J141 (f_L_grind_L23 y5_23 y6_23 y7_23 n23) y5_23 y6_23 y7_23 y8_141 y10_141 vg_141 vu_141 vh_141 vc_141 ve_141 = some R → W p l e rmL_grind s m args below meth c H locs 0 0 Q (F0 m 141 ls []) := by
        intro y8_141 y10_141 vg_141 vu_141 vh_141 vc_141 ve_141 H locs hP hD hS ls hl hf
        rw [f_L_grind_J141] at hf
        refine lv_aload_n hx hb dL_grind_141 rfl (lv_at hl 0 rfl) ?_
        refine lv_bipush (v := (13 : Int32)) hx hb dL_grind_142 (by decide) ?_
        refine lv_dup2_11 hx hb dL_grind_144 rfl rfl ?_
        refine va_iald hx hb hK hP 0 0 rfl rfl (show ¬ ((13 : Int32) < 0 ∨ 15 ≤ (13 : Int32).toNatClampNeg) by decide) dL_grind_145 ?_
        refine lv_iload hx hb dL_grind_146 (lv_at hl 9 rfl) ?_
        refine lv_if_eq (tgt := 155) hx hb dL_grind_148 (by decide) (fun hc58 => ?_) (fun hc58 => ?_)
        · replace hf := it hc58 hf
          refine lv_iconst (v := (0 : Int32)) hx hb dL_grind_155 (by decide) ?_
          exact J156 y8_141 (0 : Int32) (vg_141 (13 : Int32).toNatClampNeg) (13 : Int32) vg_141 vu_141 vh_141 vc_141 ve_141 H locs hP hD hS ls (lv_sub hl [0, 1, 2, 3, 4, 5, 6, 7, 8] rfl) hf
        · replace hf := ie hc58 hf
          refine lv_iconst (v := (1 : Int32)) hx hb dL_grind_151 (by decide) ?_
          refine lv_goto (tgt := 156) hx hb dL_grind_152 (by decide) ?_
          exact J156 y8_141 (1 : Int32) (vg_141 (13 : Int32).toNatClampNeg) (13 : Int32) vg_141 vu_141 vh_141 vc_141 ve_141 H locs hP hD hS ls (lv_sub hl [0, 1, 2, 3, 4, 5, 6, 7, 8] rfl) hf
      have L113 : ∀ n113 : Nat, ∀ (y8_113 : Int32) (y10_113 : Int32) (y11_113 : Int32) (vg_113 : Nat → Int32) (vu_113 : Nat → Int32) (vh_113 : Nat → Int32) (vc_113 : Nat → Int32) (ve_113 : Nat → Int32) (H : Heap) (locs : List Loc), va_P D vwCl ([(bg, .inl (cI, 15, .inl vg_113)), (bu, .inl (cI, 8, .inl vu_113)), (bh, .inl (cI, 12, .inl vh_113)), (bc, .inl (cI, 64, .inl vc_113)), (be, .inl (cI, 64, .inl ve_113))] : va_W) H → va_D AA ([(bg, .inl (cI, 15, .inl vg_113)), (bu, .inl (cI, 8, .inl vu_113)), (bh, .inl (cI, 12, .inl vh_113)), (bc, .inl (cI, 64, .inl vc_113)), (be, .inl (cI, 64, .inl ve_113))] : va_W) → va_S AA s.heap H locs → ∀ ls : Array Slot, lv_has ls 13 [(0, .ref bg), (1, .ref bu), (2, .ref bh), (3, .ref bc), (4, .ref be), (5, .int y5_23), (6, .int y6_23), (7, .int y7_23), (8, .int y8_113), (10, .int y10_113), (11, .int y11_113)] → f_L_grind_L113 (f_L_grind_L23 y5_23 y6_23 y7_23 n23) y5_23 y6_23 y7_23 y8_113 y10_113 n113 y11_113 vg_113 vu_113 vh_113 vc_113 ve_113 = some R → W p l e rmL_grind s m args below meth c H locs 0 0 Q (F0 m 113 ls []) := by
        intro n113
        induction n113 with
        | zero => intro y8_113 y10_113 y11_113 vg_113 vu_113 vh_113 vc_113 ve_113 H locs hP hD hS ls hl hf; rw [f_L_grind_L113] at hf; cases hf
        | succ n113 IH113 =>
          intro y8_113 y10_113 y11_113 vg_113 vu_113 vh_113 vc_113 ve_113 H locs hP hD hS ls hl hf
          rw [f_L_grind_L113] at hf
          refine lv_iload hx hb dL_grind_113 (lv_at hl 10 rfl) ?_
          refine lv_bipush (v := (10 : Int32)) hx hb dL_grind_115 (by decide) ?_
          refine lv_icmp_ge (tgt := 141) hx hb dL_grind_117 (by decide) (fun hc44 => ?_) (fun hc44 => ?_)
          · replace hf := it hc44 hf
            exact J141 y8_113 y10_113 vg_113 vu_113 vh_113 vc_113 ve_113 H locs hP hD hS ls (lv_sub hl [0, 1, 2, 3, 4, 5, 6, 7, 8, 9] rfl) hf
          · replace hf := ie hc44 hf
            refine lv_iload hx hb dL_grind_120 (lv_at hl 9 rfl) ?_
            refine lv_if_eq (tgt := 141) hx hb dL_grind_122 (by decide) (fun hc45 => ?_) (fun hc45 => ?_)
            · replace hf := it hc45 hf
              exact J141 y8_113 y10_113 vg_113 vu_113 vh_113 vc_113 ve_113 H locs hP hD hS ls (lv_sub hl [0, 1, 2, 3, 4, 5, 6, 7, 8, 9] rfl) hf
            · replace hf := ie hc45 hf
              refine lv_aload_n hx hb dL_grind_125 rfl (lv_at hl 2 rfl) ?_
              refine lv_iload hx hb dL_grind_126 (lv_at hl 10 rfl) ?_
              refine lv_aload_n hx hb dL_grind_128 rfl (lv_at hl 2 rfl) ?_
              refine lv_iload hx hb dL_grind_129 (lv_at hl 10 rfl) ?_
              refine lv_iconst (v := (2 : Int32)) hx hb dL_grind_131 (by decide) ?_
              refine lv_iadd hx hb dL_grind_132 ?_
              obtain ⟨hg46, hf⟩ := gd_s hf
              refine va_iald hx hb hK hP 2 0 rfl rfl hg46 dL_grind_133 ?_
              refine lv_topi (fun v47 ev47 => ?_)
              replace hf := lt_e ev47 hf
              obtain ⟨hg48, hf⟩ := gd_s hf
              refine x_iast hx hb hK hP hD hS 2 0 rfl rfl hg48 dL_grind_134 (fun Z49 H locs eZ49 hP hD hS => ?_)
              replace hf := lt_e eZ49 hf
              have hP : va_P D vwCl ([(bg, .inl (cI, 15, .inl vg_113)), (bu, .inl (cI, 8, .inl vu_113)), (bh, .inl (cI, 12, .inl Z49)), (bc, .inl (cI, 64, .inl vc_113)), (be, .inl (cI, 64, .inl ve_113))] : va_W) H := hP
              have hD : va_D AA ([(bg, .inl (cI, 15, .inl vg_113)), (bu, .inl (cI, 8, .inl vu_113)), (bh, .inl (cI, 12, .inl Z49)), (bc, .inl (cI, 64, .inl vc_113)), (be, .inl (cI, 64, .inl ve_113))] : va_W) := hD
              obtain ⟨v50, ev50⟩ : ∃ z : Int32, z = y11_113 + (1 : Int32) := ⟨_, rfl⟩
              replace hf := lt_e ev50 hf
              refine lv_iinc (v := v50) (lv' := [(11, .int v50), (0, .ref bg), (1, .ref bu), (2, .ref bh), (3, .ref bc), (4, .ref be), (5, .int y5_23), (6, .int y6_23), (7, .int y7_23), (8, .int y8_113), (10, .int y10_113)]) hx hb dL_grind_135 hl (k := 10) rfl (by rw [ev50]; rfl) (by decide) rfl (fun ls hl => ?_)
              refine lv_goto (tgt := 113) hx hb dL_grind_138 (by decide) ?_
              exact IH113 y8_113 y10_113 v50 vg_113 vu_113 Z49 vc_113 ve_113 H locs hP hD hS ls (lv_sub hl [1, 2, 3, 4, 5, 6, 7, 8, 9, 10, 0] rfl) hf
      have J108 : ∀ (y8_108 : Int32) (z0_108 : Int32) (vg_108 : Nat → Int32) (vu_108 : Nat → Int32) (vh_108 : Nat → Int32) (vc_108 : Nat → Int32) (ve_108 : Nat → Int32) (H : Heap) (locs : List Loc), va_P D vwCl ([(bg, .inl (cI, 15, .inl vg_108)), (bu, .inl (cI, 8, .inl vu_108)), (bh, .inl (cI, 12, .inl vh_108)), (bc, .inl (cI, 64, .inl vc_108)), (be, .inl (cI, 64, .inl ve_108))] : va_W) H → va_D AA ([(bg, .inl (cI, 15, .inl vg_108)), (bu, .inl (cI, 8, .inl vu_108)), (bh, .inl (cI, 12, .inl vh_108)), (bc, .inl (cI, 64, .inl vc_108)), (be, .inl (cI, 64, .inl ve_108))] : va_W) → va_S AA s.heap H locs → ∀ ls : Array Slot, lv_has ls 13 [(0, .ref bg), (1, .ref bu), (2, .ref bh), (3, .ref bc), (4, .ref be), (5, .int y5_23), (6, .int y6_23), (7, .int y7_23), (8, .int y8_108)] → f_L_grind_J108 (f_L_grind_L23 y5_23 y6_23 y7_23 n23) y5_23 y6_23 y7_23 y8_108 z0_108 vg_108 vu_108 vh_108 vc_108 ve_108 = some R → W p l e rmL_grind s m args below meth c H locs 0 0 Q (F0 m 108 ls [.int z0_108]) := by
        intro y8_108 z0_108 vg_108 vu_108 vh_108 vc_108 ve_108 H locs hP hD hS ls hl hf
        rw [f_L_grind_J108] at hf
        refine lv_istore (lv' := [(10, .int z0_108), (0, .ref bg), (1, .ref bu), (2, .ref bh), (3, .ref bc), (4, .ref be), (5, .int y5_23), (6, .int y6_23), (7, .int y7_23), (8, .int y8_108)]) hx hb dL_grind_108 hl (by decide) rfl (fun ls hl => ?_)
        refine lv_iconst (v := (0 : Int32)) hx hb dL_grind_110 (by decide) ?_
        refine lv_istore (lv' := [(11, .int (0 : Int32)), (10, .int z0_108), (0, .ref bg), (1, .ref bu), (2, .ref bh), (3, .ref bc), (4, .ref be), (5, .int y5_23), (6, .int y6_23), (7, .int y7_23), (8, .int y8_108)]) hx hb dL_grind_111 hl (by decide) rfl (fun ls hl => ?_)
        exact L113 FU y8_108 z0_108 (0 : Int32) vg_108 vu_108 vh_108 vc_108 ve_108 H locs hP hD hS ls (lv_sub hl [2, 3, 4, 5, 6, 7, 8, 9, 10, 1, 0] rfl) hf
      have J44 : ∀ (y8_44 : Int32) (z0_44 : Int32) (vg_44 : Nat → Int32) (vu_44 : Nat → Int32) (vh_44 : Nat → Int32) (vc_44 : Nat → Int32) (ve_44 : Nat → Int32) (H : Heap) (locs : List Loc), va_P D vwCl ([(bg, .inl (cI, 15, .inl vg_44)), (bu, .inl (cI, 8, .inl vu_44)), (bh, .inl (cI, 12, .inl vh_44)), (bc, .inl (cI, 64, .inl vc_44)), (be, .inl (cI, 64, .inl ve_44))] : va_W) H → va_D AA ([(bg, .inl (cI, 15, .inl vg_44)), (bu, .inl (cI, 8, .inl vu_44)), (bh, .inl (cI, 12, .inl vh_44)), (bc, .inl (cI, 64, .inl vc_44)), (be, .inl (cI, 64, .inl ve_44))] : va_W) → va_S AA s.heap H locs → ∀ ls : Array Slot, lv_has ls 13 [(0, .ref bg), (1, .ref bu), (2, .ref bh), (3, .ref bc), (4, .ref be), (5, .int y5_23), (6, .int y6_23), (7, .int y7_23), (8, .int y8_44)] → f_L_grind_J44 (f_L_grind_L23 y5_23 y6_23 y7_23 n23) y5_23 y6_23 y7_23 y8_44 z0_44 vg_44 vu_44 vh_44 vc_44 ve_44 = some R → W p l e rmL_grind s m args below meth c H locs 0 0 Q (F0 m 44 ls [.int z0_44]) := by
        intro y8_44 z0_44 vg_44 vu_44 vh_44 vc_44 ve_44 H locs hP hD hS ls hl hf
        rw [f_L_grind_J44] at hf
        refine lv_istore (lv' := [(9, .int z0_44), (0, .ref bg), (1, .ref bu), (2, .ref bh), (3, .ref bc), (4, .ref be), (5, .int y5_23), (6, .int y6_23), (7, .int y7_23), (8, .int y8_44)]) hx hb dL_grind_44 hl (by decide) rfl (fun ls hl => ?_)
        refine lv_aload_n hx hb dL_grind_46 rfl (lv_at hl 4 rfl) ?_
        refine lv_iconst (v := (0 : Int32)) hx hb dL_grind_47 (by decide) ?_
        refine lv_dup2_11 hx hb dL_grind_48 rfl rfl ?_
        refine va_iald hx hb hK hP 3 0 rfl rfl (show ¬ ((0 : Int32) < 0 ∨ 64 ≤ (0 : Int32).toNatClampNeg) by decide) dL_grind_49 ?_
        refine lv_iconst (v := (1 : Int32)) hx hb dL_grind_50 (by decide) ?_
        refine lv_iadd hx hb dL_grind_51 ?_
        refine lv_topi (fun v25 ev25 => ?_)
        replace hf := lt_e ev25 hf
        refine x_iast hx hb hK hP hD hS 3 0 rfl rfl (show ¬ ((0 : Int32) < 0 ∨ 64 ≤ (0 : Int32).toNatClampNeg) by decide) dL_grind_52 (fun Z26 H locs eZ26 hP hD hS => ?_)
        replace hf := lt_e eZ26 hf
        have hP : va_P D vwCl ([(bg, .inl (cI, 15, .inl vg_44)), (bu, .inl (cI, 8, .inl vu_44)), (bh, .inl (cI, 12, .inl vh_44)), (bc, .inl (cI, 64, .inl Z26)), (be, .inl (cI, 64, .inl ve_44))] : va_W) H := hP
        have hD : va_D AA ([(bg, .inl (cI, 15, .inl vg_44)), (bu, .inl (cI, 8, .inl vu_44)), (bh, .inl (cI, 12, .inl vh_44)), (bc, .inl (cI, 64, .inl Z26)), (be, .inl (cI, 64, .inl ve_44))] : va_W) := hD
        refine lv_aload_n hx hb dL_grind_53 rfl (lv_at hl 4 rfl) ?_
        refine lv_aload_n hx hb dL_grind_54 rfl (lv_at hl 4 rfl) ?_
        refine lv_iconst (v := (0 : Int32)) hx hb dL_grind_55 (by decide) ?_
        refine va_iald hx hb hK hP 3 0 rfl rfl (show ¬ ((0 : Int32) < 0 ∨ 64 ≤ (0 : Int32).toNatClampNeg) by decide) dL_grind_56 ?_
        refine lv_iload hx hb dL_grind_57 (lv_at hl 0 rfl) ?_
        refine lv_sipush (v := (1000 : Int32)) hx hb dL_grind_59 (by decide) ?_
        refine lv_aload_n hx hb dL_grind_62 rfl (lv_at hl 3 rfl) ?_
        refine lv_iconst (v := (0 : Int32)) hx hb dL_grind_63 (by decide) ?_
        refine va_iald hx hb hK hP 2 0 rfl rfl (show ¬ ((0 : Int32) < 0 ∨ 12 ≤ (0 : Int32).toNatClampNeg) by decide) dL_grind_64 ?_
        refine lv_imul hx hb dL_grind_65 ?_
        refine lv_iadd hx hb dL_grind_66 ?_
        refine lv_sipush (v := (2000 : Int32)) hx hb dL_grind_67 (by decide) ?_
        refine lv_iload hx hb dL_grind_70 (lv_at hl 6 rfl) ?_
        refine lv_imul hx hb dL_grind_72 ?_
        refine lv_iadd hx hb dL_grind_73 ?_
        refine lv_sipush (v := (4000 : Int32)) hx hb dL_grind_74 (by decide) ?_
        refine lv_iload hx hb dL_grind_77 (lv_at hl 8 rfl) ?_
        refine lv_imul hx hb dL_grind_79 ?_
        refine lv_iadd hx hb dL_grind_80 ?_
        refine lv_topi (fun v27 ev27 => ?_)
        replace hf := lt_e ev27 hf
        obtain ⟨hg28, hf⟩ := gd_s hf
        refine x_iast hx hb hK hP hD hS 3 0 rfl rfl hg28 dL_grind_81 (fun Z29 H locs eZ29 hP hD hS => ?_)
        replace hf := lt_e eZ29 hf
        have hP : va_P D vwCl ([(bg, .inl (cI, 15, .inl vg_44)), (bu, .inl (cI, 8, .inl vu_44)), (bh, .inl (cI, 12, .inl vh_44)), (bc, .inl (cI, 64, .inl Z29)), (be, .inl (cI, 64, .inl ve_44))] : va_W) H := hP
        have hD : va_D AA ([(bg, .inl (cI, 15, .inl vg_44)), (bu, .inl (cI, 8, .inl vu_44)), (bh, .inl (cI, 12, .inl vh_44)), (bc, .inl (cI, 64, .inl Z29)), (be, .inl (cI, 64, .inl ve_44))] : va_W) := hD
        refine lv_iload hx hb dL_grind_82 (lv_at hl 9 rfl) ?_
        refine lv_iload hx hb dL_grind_84 (lv_at hl 0 rfl) ?_
        refine lv_isub hx hb dL_grind_86 ?_
        refine lv_topi (fun v30 ev30 => ?_)
        replace hf := lt_e ev30 hf
        refine lv_istore (lv' := [(8, .int v30), (9, .int z0_44), (0, .ref bg), (1, .ref bu), (2, .ref bh), (3, .ref bc), (4, .ref be), (5, .int y5_23), (6, .int y6_23), (7, .int y7_23)]) hx hb dL_grind_87 hl (by decide) rfl (fun ls hl => ?_)
        refine lv_aload_n hx hb dL_grind_89 rfl (lv_at hl 4 rfl) ?_
        refine lv_iconst (v := (1 : Int32)) hx hb dL_grind_90 (by decide) ?_
        refine lv_dup2_11 hx hb dL_grind_91 rfl rfl ?_
        refine va_iald hx hb hK hP 2 0 rfl rfl (show ¬ ((1 : Int32) < 0 ∨ 12 ≤ (1 : Int32).toNatClampNeg) by decide) dL_grind_92 ?_
        refine lv_iload hx hb dL_grind_93 (lv_at hl 1 rfl) ?_
        refine lv_isub hx hb dL_grind_95 ?_
        refine lv_topi (fun v31 ev31 => ?_)
        replace hf := lt_e ev31 hf
        refine x_iast hx hb hK hP hD hS 2 0 rfl rfl (show ¬ ((1 : Int32) < 0 ∨ 12 ≤ (1 : Int32).toNatClampNeg) by decide) dL_grind_96 (fun Z32 H locs eZ32 hP hD hS => ?_)
        replace hf := lt_e eZ32 hf
        have hP : va_P D vwCl ([(bg, .inl (cI, 15, .inl vg_44)), (bu, .inl (cI, 8, .inl vu_44)), (bh, .inl (cI, 12, .inl Z32)), (bc, .inl (cI, 64, .inl Z29)), (be, .inl (cI, 64, .inl ve_44))] : va_W) H := hP
        have hD : va_D AA ([(bg, .inl (cI, 15, .inl vg_44)), (bu, .inl (cI, 8, .inl vu_44)), (bh, .inl (cI, 12, .inl Z32)), (bc, .inl (cI, 64, .inl Z29)), (be, .inl (cI, 64, .inl ve_44))] : va_W) := hD
        refine lv_aload_n hx hb dL_grind_97 rfl (lv_at hl 4 rfl) ?_
        refine lv_iconst (v := (1 : Int32)) hx hb dL_grind_98 (by decide) ?_
        refine va_iald hx hb hK hP 2 0 rfl rfl (show ¬ ((1 : Int32) < 0 ∨ 12 ≤ (1 : Int32).toNatClampNeg) by decide) dL_grind_99 ?_
        refine lv_if_ne (tgt := 107) hx hb dL_grind_100 (by decide) (fun hc33 => ?_) (fun hc33 => ?_)
        · replace hf := ie hc33 hf
          refine lv_iconst (v := (0 : Int32)) hx hb dL_grind_107 (by decide) ?_
          exact J108 v30 (0 : Int32) vg_44 vu_44 Z32 Z29 ve_44 H locs hP hD hS ls (lv_sub hl [2, 3, 4, 5, 6, 7, 8, 9, 0] rfl) hf
        · replace hf := it hc33 hf
          refine lv_iconst (v := (1 : Int32)) hx hb dL_grind_103 (by decide) ?_
          refine lv_goto (tgt := 108) hx hb dL_grind_104 (by decide) ?_
          exact J108 v30 (1 : Int32) vg_44 vu_44 Z32 Z29 ve_44 H locs hP hD hS ls (lv_sub hl [2, 3, 4, 5, 6, 7, 8, 9, 0] rfl) hf
      rw [f_L_grind_L23] at hf
      refine lv_iload hx hb dL_grind_23 (lv_at hl 8 rfl) ?_
      refine lv_if_le (tgt := 161) hx hb dL_grind_25 (by decide) (fun hc4 => ?_) (fun hc4 => ?_)
      · replace hf := it hc4 hf
        refine lv_aload_n hx hb dL_grind_161 rfl (lv_at hl 1 rfl) ?_
        refine lv_iconst (v := (4 : Int32)) hx hb dL_grind_162 (by decide) ?_
        refine lv_iload hx hb dL_grind_163 (lv_at hl 5 rfl) ?_
        refine lv_imul hx hb dL_grind_165 ?_
        refine lv_iconst (v := (1 : Int32)) hx hb dL_grind_166 (by decide) ?_
        refine lv_iadd hx hb dL_grind_167 ?_
        refine lv_topi (fun v5 ev5 => ?_)
        replace hf := lt_e ev5 hf
        refine lv_dup2_11 hx hb dL_grind_168 rfl rfl ?_
        obtain ⟨hg6, hf⟩ := gd_s hf
        refine va_iald hx hb hK hP 1 0 rfl rfl hg6 dL_grind_169 ?_
        refine lv_iload hx hb dL_grind_170 (lv_at hl 6 rfl) ?_
        refine lv_iconst (v := (4 : Int32)) hx hb dL_grind_172 (by decide) ?_
        refine lv_idiv hx hb dL_grind_173 (by decide) ?_
        refine lv_iadd hx hb dL_grind_174 ?_
        refine lv_topi (fun v7 ev7 => ?_)
        replace hf := lt_e ev7 hf
        obtain ⟨hg8, hf⟩ := gd_s hf
        refine x_iast hx hb hK hP hD hS 1 0 rfl rfl hg8 dL_grind_175 (fun Z9 H locs eZ9 hP hD hS => ?_)
        replace hf := lt_e eZ9 hf
        have hP : va_P D vwCl ([(bg, .inl (cI, 15, .inl vg_23)), (bu, .inl (cI, 8, .inl Z9)), (bh, .inl (cI, 12, .inl vh_23)), (bc, .inl (cI, 64, .inl vc_23)), (be, .inl (cI, 64, .inl ve_23))] : va_W) H := hP
        have hD : va_D AA ([(bg, .inl (cI, 15, .inl vg_23)), (bu, .inl (cI, 8, .inl Z9)), (bh, .inl (cI, 12, .inl vh_23)), (bc, .inl (cI, 64, .inl vc_23)), (be, .inl (cI, 64, .inl ve_23))] : va_W) := hD
        refine lv_aload_n hx hb dL_grind_176 rfl (lv_at hl 1 rfl) ?_
        refine lv_iconst (v := (4 : Int32)) hx hb dL_grind_177 (by decide) ?_
        refine lv_iload hx hb dL_grind_178 (lv_at hl 5 rfl) ?_
        refine lv_imul hx hb dL_grind_180 ?_
        refine lv_iconst (v := (1 : Int32)) hx hb dL_grind_181 (by decide) ?_
        refine lv_iadd hx hb dL_grind_182 ?_
        refine lv_aload_n hx hb dL_grind_183 rfl (lv_at hl 1 rfl) ?_
        refine lv_iconst (v := (4 : Int32)) hx hb dL_grind_184 (by decide) ?_
        refine lv_iload hx hb dL_grind_185 (lv_at hl 5 rfl) ?_
        refine lv_imul hx hb dL_grind_187 ?_
        refine lv_iconst (v := (1 : Int32)) hx hb dL_grind_188 (by decide) ?_
        refine lv_iadd hx hb dL_grind_189 ?_
        obtain ⟨hg10, hf⟩ := gd_s hf
        refine va_iald hx hb hK hP 1 0 rfl rfl hg10 dL_grind_190 ?_
        refine lv_sipush (v := (300 : Int32)) hx hb dL_grind_191 (by decide) ?_
        refine lv_icmp_ge (tgt := 208) hx hb dL_grind_194 (by decide) (fun hc11 => ?_) (fun hc11 => ?_)
        · replace hf := it hc11 hf
          refine lv_sipush (v := (300 : Int32)) hx hb dL_grind_208 (by decide) ?_
          exact J211 y5_23 y6_23 (300 : Int32) (((4 : Int32) * y5_23) + (1 : Int32)) vg_23 Z9 vh_23 vc_23 ve_23 H locs hP hD hS ls (lv_sub hl [0, 1, 3, 4, 5, 6] rfl) hf
        · replace hf := ie hc11 hf
          refine lv_aload_n hx hb dL_grind_197 rfl (lv_at hl 1 rfl) ?_
          refine lv_iconst (v := (4 : Int32)) hx hb dL_grind_198 (by decide) ?_
          refine lv_iload hx hb dL_grind_199 (lv_at hl 5 rfl) ?_
          refine lv_imul hx hb dL_grind_201 ?_
          refine lv_iconst (v := (1 : Int32)) hx hb dL_grind_202 (by decide) ?_
          refine lv_iadd hx hb dL_grind_203 ?_
          obtain ⟨hg12, hf⟩ := gd_s hf
          refine va_iald hx hb hK hP 1 0 rfl rfl hg12 dL_grind_204 ?_
          refine lv_goto (tgt := 211) hx hb dL_grind_205 (by decide) ?_
          exact J211 y5_23 y6_23 (Z9 (((4 : Int32) * y5_23) + (1 : Int32)).toNatClampNeg) (((4 : Int32) * y5_23) + (1 : Int32)) vg_23 Z9 vh_23 vc_23 ve_23 H locs hP hD hS ls (lv_sub hl [0, 1, 3, 4, 5, 6] rfl) hf
      · replace hf := ie hc4 hf
        refine lv_iload hx hb dL_grind_28 (lv_at hl 8 rfl) ?_
        refine lv_aload_n hx hb dL_grind_30 rfl (lv_at hl 2 rfl) ?_
        refine lv_iconst (v := (1 : Int32)) hx hb dL_grind_31 (by decide) ?_
        refine va_iald hx hb hK hP 2 0 rfl rfl (show ¬ ((1 : Int32) < 0 ∨ 12 ≤ (1 : Int32).toNatClampNeg) by decide) dL_grind_32 ?_
        refine lv_icmp_ge (tgt := 41) hx hb dL_grind_33 (by decide) (fun hc13 => ?_) (fun hc13 => ?_)
        · replace hf := it hc13 hf
          refine lv_aload_n hx hb dL_grind_41 rfl (lv_at hl 2 rfl) ?_
          refine lv_iconst (v := (1 : Int32)) hx hb dL_grind_42 (by decide) ?_
          refine va_iald hx hb hK hP 2 0 rfl rfl (show ¬ ((1 : Int32) < 0 ∨ 12 ≤ (1 : Int32).toNatClampNeg) by decide) dL_grind_43 ?_
          exact J44 y8_23 (vh_23 (1 : Int32).toNatClampNeg) vg_23 vu_23 vh_23 vc_23 ve_23 H locs hP hD hS ls (lv_sub hl [0, 1, 2, 3, 4, 5, 6, 7, 8] rfl) hf
        · replace hf := ie hc13 hf
          refine lv_iload hx hb dL_grind_36 (lv_at hl 8 rfl) ?_
          refine lv_goto (tgt := 44) hx hb dL_grind_38 (by decide) ?_
          exact J44 y8_23 y8_23 vg_23 vu_23 vh_23 vc_23 ve_23 H locs hP hD hS ls (lv_sub hl [0, 1, 2, 3, 4, 5, 6, 7, 8] rfl) hf
  rw [f_L_grind] at hf
  obtain ⟨H, hH⟩ : ∃ z : Heap, z = s.heap := ⟨_, rfl⟩
  obtain ⟨locs, hL⟩ : ∃ z : List Loc, z = [] := ⟨_, rfl⟩
  replace hP := hH ▸ hP
  replace hS : va_S AA s.heap H locs := by rw [hH, hL]; exact hS
  suffices hgoal : W p l e rmL_grind s m args below meth c H locs 0 0 Q (F0 m 0 ls []) by rw [hH, hL] at hgoal; exact hgoal
  clear hH hL
  refine lv_aload_n hx hb dL_grind_0 rfl (lv_at hl 1 rfl) ?_
  refine lv_iconst (v := (4 : Int32)) hx hb dL_grind_1 (by decide) ?_
  refine lv_iload hx hb dL_grind_2 (lv_at hl 5 rfl) ?_
  refine lv_imul hx hb dL_grind_4 ?_
  obtain ⟨hg1, hf⟩ := gd_s hf
  refine va_iald hx hb hK hP 1 0 rfl rfl hg1 dL_grind_5 ?_
  refine lv_aload_n hx hb dL_grind_6 rfl (lv_at hl 1 rfl) ?_
  refine lv_iconst (v := (4 : Int32)) hx hb dL_grind_7 (by decide) ?_
  refine lv_iload hx hb dL_grind_8 (lv_at hl 5 rfl) ?_
  refine lv_imul hx hb dL_grind_10 ?_
  refine lv_iconst (v := (1 : Int32)) hx hb dL_grind_11 (by decide) ?_
  refine lv_iadd hx hb dL_grind_12 ?_
  obtain ⟨hg2, hf⟩ := gd_s hf
  refine va_iald hx hb hK hP 1 0 rfl rfl hg2 dL_grind_13 ?_
  obtain ⟨q3, hq3, hf⟩ := ob hf
  refine cl_RS (As := [.int (vu ((4 : Int32) * x5).toNatClampNeg), .int (vu (((4 : Int32) * x5) + (1 : Int32)).toNatClampNeg)]) (rest := []) hF hP hD (c_L_gap (vu ((4 : Int32) * x5).toNatClampNeg) (vu (((4 : Int32) * x5) + (1 : Int32)).toNatClampNeg) q3 hq3) (va_cwS 2 hts gL_grind_L_gap rfl rfl rfl (by decide +kernel) ⟨(Nat.le_of_ble_eq_true rfl), (Nat.le_of_ble_eq_true rfl)⟩) [] rfl (by decide +kernel) rfl rfl hl.1 (Nat.le_of_ble_eq_true rfl) dL_grind_14 ⟨Nat.zero_le _, Nat.zero_le _⟩ ?_
  refine lv_istore (lv' := [(7, .int q3), (0, .ref bg), (1, .ref bu), (2, .ref bh), (3, .ref bc), (4, .ref be), (5, .int x5), (6, .int x6)]) hx hb dL_grind_17 hl (by decide) rfl (fun ls hl => ?_)
  refine lv_iload hx hb dL_grind_19 (lv_at hl 7 rfl) ?_
  refine lv_istore (lv' := [(8, .int x6), (7, .int q3), (0, .ref bg), (1, .ref bu), (2, .ref bh), (3, .ref bc), (4, .ref be), (5, .int x5), (6, .int x6)]) hx hb dL_grind_21 hl (by decide) rfl (fun ls hl => ?_)
  exact L23 FU x5 x6 q3 x6 vg vu vh vc ve H locs hP hD hS ls (lv_sub hl [2, 3, 4, 5, 6, 7, 8, 1, 0] rfl) hf
abbrev rmL_brew : Room := { frames := 2, cells := 0, slots := 0, locals := 22 }
set_option maxHeartbeats 4000000 in
set_option maxRecDepth 100000 in
theorem c_L_brew (bg : Nat) (be : Nat) (vg : Nat → Int32) (ve : Nat → Int32) (R : Int32) (hf : f_L_brew vg ve = some R) : RdI l yL_brew wsL_brew rmL_brew D cI cC ([(bg, .inl (cI, 15, .inl vg)), (be, .inl (cI, 64, .inl ve))] : va_W) [.ref bg, .ref be] R := by
  refine en_R (cc := cL_brew) (n := 4) (by decide) rfl (Nat.le_of_ble_eq_true rfl) ?_
  intro p e s m args below meth c Q AA ls hx hb hml hown hts hK hN hP hD hl ret
  have hown : s.vm.findClass RL = some m.cls := hown
  have hF : FX p m c cL_brew 4 s args wsL_brew RL D cI cC := ⟨⟨hx, hb, hml, hown, hts⟩, hK, hN⟩
  have hl : lv_has ls 4 [(0, .ref bg), (1, .ref be)] := hl
  have L4 : ∀ n4 : Nat, ∀ (y2_4 : Int32) (y3_4 : Int32), ∀ ls : Array Slot, lv_has ls 4 [(0, .ref bg), (1, .ref be), (2, .int y2_4), (3, .int y3_4)] → f_L_brew_L4 vg ve n4 y2_4 y3_4 = some R → W p l e rmL_brew s m args below meth c s.heap [] 0 0 Q (F0 m 4 ls []) := by
    intro n4
    induction n4 with
    | zero => intro y2_4 y3_4 ls hl hf; rw [f_L_brew_L4] at hf; cases hf
    | succ n4 IH4 =>
      intro y2_4 y3_4 ls hl hf
      rw [f_L_brew_L4] at hf
      refine lv_iload_n hx hb dL_brew_4 rfl (lv_at hl 3 rfl) ?_
      refine lv_aload_n hx hb dL_brew_5 rfl (lv_at hl 1 rfl) ?_
      refine lv_iconst (v := (0 : Int32)) hx hb dL_brew_6 (by decide) ?_
      refine va_iald hx hb hK hP 1 0 rfl rfl (show ¬ ((0 : Int32) < 0 ∨ 64 ≤ (0 : Int32).toNatClampNeg) by decide) dL_brew_7 ?_
      refine lv_icmp_gt (tgt := 35) hx hb dL_brew_8 (by decide) (fun hc1 => ?_) (fun hc1 => ?_)
      · replace hf := it hc1 hf
        refine lv_iload_n hx hb dL_brew_35 rfl (lv_at hl 2 rfl) ?_
        refine lv_aload_n hx hb dL_brew_36 rfl (lv_at hl 1 rfl) ?_
        obtain ⟨q2, hq2, hf⟩ := ob hf
        refine cl_RS (As := [.ref be]) (rest := [.int y2_4]) hF hP hD (c_L_amounts be ve q2 hq2) (va_cwS 1 hts gL_brew_L_amounts rfl rfl rfl (by decide +kernel) ⟨(Nat.le_of_ble_eq_true rfl), (Nat.le_of_ble_eq_true rfl)⟩) [1] rfl (by decide +kernel) rfl rfl hl.1 (Nat.le_of_ble_eq_true rfl) dL_brew_37 ⟨Nat.zero_le _, Nat.zero_le _⟩ ?_
        obtain ⟨hg3, hf⟩ := gd_s hf
        refine lv_idiv hx hb dL_brew_40 hg3 ?_
        obtain rfl := Option.some.inj hf
        exact ret 41 ls _ dL_brew_41 rfl rfl
      · replace hf := ie hc1 hf
        refine lv_iload_n hx hb dL_brew_11 rfl (lv_at hl 2 rfl) ?_
        refine lv_aload_n hx hb dL_brew_12 rfl (lv_at hl 1 rfl) ?_
        refine lv_iload_n hx hb dL_brew_13 rfl (lv_at hl 3 rfl) ?_
        obtain ⟨hg4, hf⟩ := gd_s hf
        refine va_iald hx hb hK hP 1 0 rfl rfl hg4 dL_brew_14 ?_
        refine lv_sipush (v := (1000 : Int32)) hx hb dL_brew_15 (by decide) ?_
        refine lv_irem hx hb dL_brew_18 (by decide) ?_
        refine lv_aload_n hx hb dL_brew_19 rfl (lv_at hl 0 rfl) ?_
        refine lv_aload_n hx hb dL_brew_20 rfl (lv_at hl 1 rfl) ?_
        refine lv_iload_n hx hb dL_brew_21 rfl (lv_at hl 3 rfl) ?_
        obtain ⟨hg5, hf⟩ := gd_s hf
        refine va_iald hx hb hK hP 1 0 rfl rfl hg5 dL_brew_22 ?_
        obtain ⟨q6, hq6, hf⟩ := ob hf
        refine cl_RS (As := [.ref bg, .int (ve y3_4.toNatClampNeg)]) (rest := [.int ((ve y3_4.toNatClampNeg) - (ve y3_4.toNatClampNeg) / (1000 : Int32) * (1000 : Int32)), .int y2_4]) hF hP hD (c_L_flow bg (ve y3_4.toNatClampNeg) vg q6 hq6) (va_cwS 2 hts gL_brew_L_flow rfl rfl rfl (by decide +kernel) ⟨(Nat.le_of_ble_eq_true rfl), (Nat.le_of_ble_eq_true rfl)⟩) [0] rfl (by decide +kernel) rfl rfl hl.1 (Nat.le_of_ble_eq_true rfl) dL_brew_23 ⟨Nat.zero_le _, Nat.zero_le _⟩ ?_
        refine lv_imul hx hb dL_brew_26 ?_
        refine lv_iadd hx hb dL_brew_27 ?_
        refine lv_topi (fun v7 ev7 => ?_)
        replace hf := lt_e ev7 hf
        refine lv_istore_n (lv' := [(2, .int v7), (0, .ref bg), (1, .ref be), (3, .int y3_4)]) hx hb dL_brew_28 rfl hl (by decide) rfl (fun ls hl => ?_)
        obtain ⟨v8, ev8⟩ : ∃ z : Int32, z = y3_4 + (1 : Int32) := ⟨_, rfl⟩
        replace hf := lt_e ev8 hf
        refine lv_iinc (v := v8) (lv' := [(3, .int v8), (2, .int v7), (0, .ref bg), (1, .ref be)]) hx hb dL_brew_29 hl (k := 3) rfl (by rw [ev8]; rfl) (by decide) rfl (fun ls hl => ?_)
        refine lv_goto (tgt := 4) hx hb dL_brew_32 (by decide) ?_
        exact IH4 v7 v8 ls (lv_sub hl [2, 3, 1, 0] rfl) hf
  rw [f_L_brew] at hf
  refine lv_iconst (v := (0 : Int32)) hx hb dL_brew_0 (by decide) ?_
  refine lv_istore_n (lv' := [(2, .int (0 : Int32)), (0, .ref bg), (1, .ref be)]) hx hb dL_brew_1 rfl hl (by decide) rfl (fun ls hl => ?_)
  refine lv_iconst (v := (1 : Int32)) hx hb dL_brew_2 (by decide) ?_
  refine lv_istore_n (lv' := [(3, .int (1 : Int32)), (2, .int (0 : Int32)), (0, .ref bg), (1, .ref be)]) hx hb dL_brew_3 rfl hl (by decide) rfl (fun ls hl => ?_)
  exact L4 FU (0 : Int32) (1 : Int32) ls (lv_sub hl [2, 3, 1, 0] rfl) hf
abbrev rmL_correct : Room := { frames := 1, cells := 0, slots := 0, locals := 0 }
set_option maxHeartbeats 4000000 in
set_option maxRecDepth 100000 in
theorem c_L_correct (bg : Nat) (bu : Nat) (x2 : Int32) (x3 : Int32) (vg : Nat → Int32) (vu : Nat → Int32) (R : (Nat → Int32)) (hf : f_L_correct x2 x3 vg vu = some R) : WrV l yL_correct wsL_correct rmL_correct D cI cC ([(bg, .inl (cI, 15, .inl vg)), (bu, .inl (cI, 8, .inl vu))] : va_W) ([(bg, .inl (cI, 15, .inl vg)), (bu, .inl (cI, 8, .inl R))] : va_W) [.ref bg, .ref bu, .int x2, .int x3] := by
  refine en_V (cc := cL_correct) (n := 5) (by decide) rfl (Nat.le_of_ble_eq_true rfl) ?_
  intro p e s m args below meth c Q AA ls hx hb hml hown hts hK hN hP hD hS hl ret
  have hown : s.vm.findClass RL = some m.cls := hown
  have hF : FX p m c cL_correct 5 s args wsL_correct RL D cI cC := ⟨⟨hx, hb, hml, hown, hts⟩, hK, hN⟩
  have hl : lv_has ls 5 [(0, .ref bg), (1, .ref bu), (2, .int x2), (3, .int x3)] := hl
  have J48 : ∀ (y2_48 : Int32) (z0_48 : Int32) (z1_48 : Int32) (vu_48 : Nat → Int32) (H : Heap) (locs : List Loc), va_P D vwCl ([(bg, .inl (cI, 15, .inl vg)), (bu, .inl (cI, 8, .inl vu_48))] : va_W) H → va_D AA ([(bg, .inl (cI, 15, .inl vg)), (bu, .inl (cI, 8, .inl vu_48))] : va_W) → va_S AA s.heap H locs → ∀ ls : Array Slot, lv_has ls 5 [(1, .ref bu), (2, .int y2_48)] → f_L_correct_J48 vg y2_48 z0_48 z1_48 vu_48 = some R → W p l e rmL_correct s m args below meth c H locs 0 0 Q (F0 m 48 ls [.int z0_48, .int z1_48, .ref bu]) := by
    intro y2_48 z0_48 z1_48 vu_48 H locs hP hD hS ls hl hf
    rw [f_L_correct_J48] at hf
    obtain ⟨hg6, hf⟩ := gd_s hf
    refine x_iast hx hb hK hP hD hS 1 0 rfl rfl hg6 dL_correct_48 (fun Z7 H locs eZ7 hP hD hS => ?_)
    replace hf := lt_e eZ7 hf
    have hP : va_P D vwCl ([(bg, .inl (cI, 15, .inl vg)), (bu, .inl (cI, 8, .inl Z7))] : va_W) H := hP
    have hD : va_D AA ([(bg, .inl (cI, 15, .inl vg)), (bu, .inl (cI, 8, .inl Z7))] : va_W) := hD
    refine lv_aload_n hx hb dL_correct_49 rfl (lv_at hl 0 rfl) ?_
    refine lv_iconst (v := (4 : Int32)) hx hb dL_correct_50 (by decide) ?_
    refine lv_iload_n hx hb dL_correct_51 rfl (lv_at hl 1 rfl) ?_
    refine lv_imul hx hb dL_correct_52 ?_
    refine lv_iconst (v := (3 : Int32)) hx hb dL_correct_53 (by decide) ?_
    refine lv_iadd hx hb dL_correct_54 ?_
    refine lv_topi (fun v8 ev8 => ?_)
    replace hf := lt_e ev8 hf
    refine lv_dup2_11 hx hb dL_correct_55 rfl rfl ?_
    obtain ⟨hg9, hf⟩ := gd_s hf
    refine va_iald hx hb hK hP 1 0 rfl rfl hg9 dL_correct_56 ?_
    refine lv_iconst (v := (1 : Int32)) hx hb dL_correct_57 (by decide) ?_
    refine lv_iadd hx hb dL_correct_58 ?_
    refine lv_topi (fun v10 ev10 => ?_)
    replace hf := lt_e ev10 hf
    obtain ⟨hg11, hf⟩ := gd_s hf
    refine x_iast hx hb hK hP hD hS 1 0 rfl rfl hg11 dL_correct_59 (fun Z12 H locs eZ12 hP hD hS => ?_)
    replace hf := lt_e eZ12 hf
    have hP : va_P D vwCl ([(bg, .inl (cI, 15, .inl vg)), (bu, .inl (cI, 8, .inl Z12))] : va_W) H := hP
    have hD : va_D AA ([(bg, .inl (cI, 15, .inl vg)), (bu, .inl (cI, 8, .inl Z12))] : va_W) := hD
    obtain rfl := Option.some.inj hf
    exact ret 60 ls H locs dL_correct_60 hP hS
  rw [f_L_correct] at hf
  obtain ⟨H, hH⟩ : ∃ z : Heap, z = s.heap := ⟨_, rfl⟩
  obtain ⟨locs, hL⟩ : ∃ z : List Loc, z = [] := ⟨_, rfl⟩
  replace hP := hH ▸ hP
  replace hS : va_S AA s.heap H locs := by rw [hH, hL]; exact hS
  suffices hgoal : W p l e rmL_correct s m args below meth c H locs 0 0 Q (F0 m 0 ls []) by rw [hH, hL] at hgoal; exact hgoal
  clear hH hL
  refine lv_aload_n hx hb dL_correct_0 rfl (lv_at hl 1 rfl) ?_
  refine lv_iconst (v := (4 : Int32)) hx hb dL_correct_1 (by decide) ?_
  refine lv_iload_n hx hb dL_correct_2 rfl (lv_at hl 2 rfl) ?_
  refine lv_imul hx hb dL_correct_3 ?_
  obtain ⟨hg1, hf⟩ := gd_s hf
  refine va_iald hx hb hK hP 1 0 rfl rfl hg1 dL_correct_4 ?_
  refine lv_iload_n hx hb dL_correct_5 rfl (lv_at hl 3 rfl) ?_
  refine lv_imul hx hb dL_correct_6 ?_
  refine lv_aload_n hx hb dL_correct_7 rfl (lv_at hl 0 rfl) ?_
  refine lv_bipush (v := (7 : Int32)) hx hb dL_correct_8 (by decide) ?_
  refine va_iald hx hb hK hP 0 0 rfl rfl (show ¬ ((7 : Int32) < 0 ∨ 15 ≤ (7 : Int32).toNatClampNeg) by decide) dL_correct_10 ?_
  refine lv_iconst (v := (2 : Int32)) hx hb dL_correct_11 (by decide) ?_
  refine lv_idiv hx hb dL_correct_12 (by decide) ?_
  refine lv_iadd hx hb dL_correct_13 ?_
  refine lv_aload_n hx hb dL_correct_14 rfl (lv_at hl 0 rfl) ?_
  refine lv_bipush (v := (7 : Int32)) hx hb dL_correct_15 (by decide) ?_
  refine va_iald hx hb hK hP 0 0 rfl rfl (show ¬ ((7 : Int32) < 0 ∨ 15 ≤ (7 : Int32).toNatClampNeg) by decide) dL_correct_17 ?_
  obtain ⟨hg2, hf⟩ := gd_s hf
  refine lv_idiv hx hb dL_correct_18 hg2 ?_
  refine lv_topi (fun v3 ev3 => ?_)
  replace hf := lt_e ev3 hf
  refine lv_istore (lv' := [(4, .int v3), (0, .ref bg), (1, .ref bu), (2, .int x2), (3, .int x3)]) hx hb dL_correct_19 hl (by decide) rfl (fun ls hl => ?_)
  refine lv_aload_n hx hb dL_correct_21 rfl (lv_at hl 2 rfl) ?_
  refine lv_iconst (v := (4 : Int32)) hx hb dL_correct_22 (by decide) ?_
  refine lv_iload_n hx hb dL_correct_23 rfl (lv_at hl 3 rfl) ?_
  refine lv_imul hx hb dL_correct_24 ?_
  refine lv_iload hx hb dL_correct_25 (lv_at hl 0 rfl) ?_
  refine lv_bipush (v := (60 : Int32)) hx hb dL_correct_27 (by decide) ?_
  refine lv_icmp_le (tgt := 37) hx hb dL_correct_29 (by decide) (fun hc4 => ?_) (fun hc4 => ?_)
  · replace hf := it hc4 hf
    refine lv_iload hx hb dL_correct_37 (lv_at hl 0 rfl) ?_
    refine lv_if_le (tgt := 47) hx hb dL_correct_39 (by decide) (fun hc5 => ?_) (fun hc5 => ?_)
    · replace hf := it hc5 hf
      refine lv_iconst (v := (1 : Int32)) hx hb dL_correct_47 (by decide) ?_
      exact J48 x2 (1 : Int32) ((4 : Int32) * x2) vu H locs hP hD hS ls (lv_sub hl [2, 3] rfl) hf
    · replace hf := ie hc5 hf
      refine lv_iload hx hb dL_correct_42 (lv_at hl 0 rfl) ?_
      refine lv_goto (tgt := 48) hx hb dL_correct_44 (by decide) ?_
      exact J48 x2 v3 ((4 : Int32) * x2) vu H locs hP hD hS ls (lv_sub hl [2, 3] rfl) hf
  · replace hf := ie hc4 hf
    refine lv_bipush (v := (60 : Int32)) hx hb dL_correct_32 (by decide) ?_
    refine lv_goto (tgt := 48) hx hb dL_correct_34 (by decide) ?_
    exact J48 x2 (60 : Int32) ((4 : Int32) * x2) vu H locs hP hD hS ls (lv_sub hl [2, 3] rfl) hf
end
