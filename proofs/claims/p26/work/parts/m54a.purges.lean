section
variable {l : Launch} {D : va_G} {cI cC : ClassId}

abbrev rmL_purges : Room := { frames := 6, cells := 0, slots := 0, locals := 163 }
set_option maxHeartbeats 4000000 in
set_option maxRecDepth 100000 in
theorem c_L_purges {w0 w : va_W} (bg : Nat) (bc : Nat) (t0 : Nat) (vg : Nat → Int32) (vc : Nat → Int32) (og : Sp) (hT : OB cI cC t0 w0 og w) (R : Int32 × (Nat → Int32) × (Nat → Int32) × Sp) (hf : f_L_purges vg vc og = some R) : WrO l yL_purges wsL_purges rmL_purges D cI cC t0 w0 w [(bg, .inl (cI, 15, .inl vg)), (bc, .inl (cI, 64, .inl vc))] [(bg, .inl (cI, 15, .inl R.2.1)), (bc, .inl (cI, 64, .inl R.2.2.1))] [.ref t0, .ref bg, .ref bc] R.1 R.2.2.2 := by
  refine en_O (cc := cL_purges) (n := 4) (by decide) rfl (Nat.le_of_ble_eq_true rfl) ?_
  intro p e s m args below meth c Q AA ls hx hb hml hown hts hK hN hP hD hS hST hl ret
  have hown : s.vm.findClass RL = some m.cls := hown
  have hF : FX p m c cL_purges 4 s args wsL_purges RL D cI cC := ⟨⟨hx, hb, hml, hown, hts⟩, hK, hN⟩
  have hl : lv_has ls 4 [(0, .ref t0), (1, .ref bg), (2, .ref bc)] := hl
  rw [f_L_purges] at hf
  obtain ⟨H, hH⟩ : ∃ z : Heap, z = s.heap := ⟨_, rfl⟩
  obtain ⟨locs, hL⟩ : ∃ z : List Loc, z = [] := ⟨_, rfl⟩
  replace hP := hH ▸ hP
  replace hS : va_S AA s.heap H locs := by rw [hH, hL]; exact hS
  suffices hgoal : W p l e rmL_purges s m args below meth c H locs 0 0 Q (F0 m 0 ls []) by rw [hH, hL] at hgoal; exact hgoal
  clear hH hL
  refine lv_aload_n hx hb dL_purges_0 rfl (lv_at hl 2 rfl) ?_
  obtain ⟨q1, hq1, hf⟩ := ob hf
  refine cl_RSL (X0 := [(bg, .inl (cI, 15, .inl vg)), (bc, .inl (cI, 64, .inl vc))]) (As := [.ref bc]) (rest := []) hF hP hD (c_L_amounts bc vc q1 hq1) (va_cwS 1 hts gL_purges_L_amounts rfl rfl rfl (by decide +kernel) ⟨(Nat.le_of_ble_eq_true rfl), (Nat.le_of_ble_eq_true rfl)⟩) [1] rfl (by decide +kernel) rfl rfl hl.1 (Nat.le_of_ble_eq_true rfl) dL_purges_1 ⟨Nat.zero_le _, Nat.zero_le _⟩ ?_
  refine lv_istore_n (lv' := [(3, .int q1), (0, .ref t0), (1, .ref bg), (2, .ref bc)]) hx hb dL_purges_4 rfl hl (by decide) rfl (fun ls hl => ?_)
  refine lv_aload_n hx hb dL_purges_5 rfl (lv_at hl 2 rfl) ?_
  refine lv_iconst (v := (4 : Int32)) hx hb dL_purges_6 (by decide) ?_
  refine lv_dup2_11 hx hb dL_purges_7 rfl rfl ?_
  refine va_iald hx hb hK hP 0 0 rfl rfl (show ¬ ((4 : Int32) < 0 ∨ 15 ≤ (4 : Int32).toNatClampNeg) by decide) dL_purges_8 ?_
  refine lv_iload_n hx hb dL_purges_9 rfl (lv_at hl 0 rfl) ?_
  refine lv_iadd hx hb dL_purges_10 ?_
  refine lv_topi (fun v2 ev2 => ?_)
  replace hf := lt_e ev2 hf
  refine x_iast hx hb hK hP hD hS 0 0 rfl rfl (show ¬ ((4 : Int32) < 0 ∨ 15 ≤ (4 : Int32).toNatClampNeg) by decide) dL_purges_11 (fun Z3 H locs eZ3 hP hD hS => ?_)
  replace hf := lt_e eZ3 hf
  have hP : va_P D vwCl ([(bg, .inl (cI, 15, .inl Z3)), (bc, .inl (cI, 64, .inl vc))] ++ w) H := hP
  have hD : va_D AA ([(bg, .inl (cI, 15, .inl Z3)), (bc, .inl (cI, 64, .inl vc))] ++ w) := hD
  refine lv_aload_n hx hb dL_purges_12 rfl (lv_at hl 3 rfl) ?_
  refine lv_iconst (v := (0 : Int32)) hx hb dL_purges_13 (by decide) ?_
  refine lv_iconst (v := (0 : Int32)) hx hb dL_purges_14 (by decide) ?_
  refine x_iast hx hb hK hP hD hS 1 0 rfl rfl (show ¬ ((0 : Int32) < 0 ∨ 64 ≤ (0 : Int32).toNatClampNeg) by decide) dL_purges_15 (fun Z4 H locs eZ4 hP hD hS => ?_)
  replace hf := lt_e eZ4 hf
  have hP : va_P D vwCl ([(bg, .inl (cI, 15, .inl Z3)), (bc, .inl (cI, 64, .inl Z4))] ++ w) H := hP
  have hD : va_D AA ([(bg, .inl (cI, 15, .inl Z3)), (bc, .inl (cI, 64, .inl Z4))] ++ w) := hD
  refine lv_aload_n hx hb dL_purges_16 rfl (lv_at hl 1 rfl) ?_
  obtain ⟨q5, hq5, hf⟩ := ob hf
  refine cl_WO (As := []) (rest := []) hF hP hD hS (oo_purge hT  q5 hq5) (cwV 0 hts gL_purges_X7_purge rfl rfl rfl (by decide +kernel) ⟨(Nat.le_of_ble_eq_true rfl), (Nat.le_of_ble_eq_true rfl)⟩) rfl rfl hl.1 (Nat.le_of_ble_eq_true rfl) dL_purges_17 ⟨Nat.zero_le _, Nat.zero_le _⟩ (fun w H locs hT hP hD hS => ?_)
  refine lv_iload_n hx hb dL_purges_20 rfl (lv_at hl 0 rfl) ?_
  refine lv_icmp_ne (tgt := 28) hx hb dL_purges_21 (by decide) (fun hc6 => ?_) (fun hc6 => ?_)
  · replace hf := ie hc6 hf
    refine lv_iconst (v := (0 : Int32)) hx hb dL_purges_28 (by decide) ?_
    obtain rfl := Option.some.inj hf
    exact ret 29 ls _ w H locs dL_purges_29 (by decide) rfl hT hP hS
  · replace hf := it hc6 hf
    refine lv_iconst (v := (1 : Int32)) hx hb dL_purges_24 (by decide) ?_
    refine lv_goto (tgt := 29) hx hb dL_purges_25 (by decide) ?_
    obtain rfl := Option.some.inj hf
    exact ret 29 ls _ w H locs dL_purges_29 (by decide) rfl hT hP hS
end
