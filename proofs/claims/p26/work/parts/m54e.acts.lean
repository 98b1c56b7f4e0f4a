section
variable {l : Launch} {D : va_G} {cI cC : ClassId}

abbrev rmL_acts : Room := { frames := 7, cells := 0, slots := 0, locals := 193 }
set_option maxHeartbeats 4000000 in
set_option maxRecDepth 100000 in
theorem c_L_acts {w0 w : va_W} (bg : Nat) (bu : Nat) (bh : Nat) (bc : Nat) (be : Nat) (bt : Nat) (bx : Nat) (t0 : Nat) (x8 : Int32) (vg : Nat → Int32) (vu : Nat → Int32) (vh : Nat → Int32) (vc : Nat → Int32) (ve : Nat → Int32) (vt : Nat → Int32) (vx : Nat → Int32) (og : Sp) (hT : OB cI cC t0 w0 og w) (R : Int32 × (Nat → Int32) × (Nat → Int32) × (Nat → Int32) × (Nat → Int32) × (Nat → Int32) × (Nat → Int32) × (Nat → Int32) × Sp) (hf : f_L_acts x8 vg vu vh vc ve vt vx og = some R) : WrO l yL_acts wsL_acts rmL_acts D cI cC t0 w0 w [(bg, .inl (cI, 15, .inl vg)), (bu, .inl (cI, 8, .inl vu)), (bh, .inl (cI, 12, .inl vh)), (bc, .inl (cI, 64, .inl vc)), (be, .inl (cI, 64, .inl ve)), (bt, .inl (cI, 36, .inl vt)), (bx, .inl (cI, 48, .inl vx))] [(bg, .inl (cI, 15, .inl R.2.1)), (bu, .inl (cI, 8, .inl R.2.2.1)), (bh, .inl (cI, 12, .inl R.2.2.2.1)), (bc, .inl (cI, 64, .inl R.2.2.2.2.1)), (be, .inl (cI, 64, .inl R.2.2.2.2.2.1)), (bt, .inl (cI, 36, .inl R.2.2.2.2.2.2.1)), (bx, .inl (cI, 48, .inl R.2.2.2.2.2.2.2.1))] [.ref t0, .ref bg, .ref bu, .ref bh, .ref bc, .ref be, .ref bt, .ref bx, .int x8] R.1 R.2.2.2.2.2.2.2.2 := by
  refine en_O (cc := cL_acts) (n := 14) (by decide) rfl (Nat.le_of_ble_eq_true rfl) ?_
  intro p e s m args below meth c Q AA ls hx hb hml hown hts hK hN hP hD hS hST hl ret
  have hown : s.vm.findClass RL = some m.cls := hown
  have hF : FX p m c cL_acts 14 s args wsL_acts RL D cI cC := ⟨⟨hx, hb, hml, hown, hts⟩, hK, hN⟩
  have hl : lv_has ls 14 [(0, .ref t0), (1, .ref bg), (2, .ref bu), (3, .ref bh), (4, .ref bc), (5, .ref be), (6, .ref bt), (7, .ref bx), (8, .int x8)] := hl
  have k1_ := hts (.constant RL 52 (10000000)) (List.mem_of_getElem? (i := 1) rfl)
  have k2_ := hts (.constant RL 20 (-1000003)) (List.mem_of_getElem? (i := 2) rfl)
  have k3_ := hts (.constant RL 15 (-1000002)) (List.mem_of_getElem? (i := 3) rfl)
  have J708 : ∀ (y11_708 : Int32) (y12_708 : Int32) (z0_708 : Int32) (z1_708 : Int32) (vg_708 : Nat → Int32) (vu_708 : Nat → Int32) (vh_708 : Nat → Int32) (vc_708 : Nat → Int32) (ve_708 : Nat → Int32) (vt_708 : Nat → Int32) (vx_708 : Nat → Int32) (og_708 : Sp) (w : va_W) (H : Heap) (locs : List Loc), OB cI cC t0 w0 og_708 w → va_P D vwCl ([(bg, .inl (cI, 15, .inl vg_708)), (bu, .inl (cI, 8, .inl vu_708)), (bh, .inl (cI, 12, .inl vh_708)), (bc, .inl (cI, 64, .inl vc_708)), (be, .inl (cI, 64, .inl ve_708)), (bt, .inl (cI, 36, .inl vt_708)), (bx, .inl (cI, 48, .inl vx_708))] ++ w) H → va_D AA ([(bg, .inl (cI, 15, .inl vg_708)), (bu, .inl (cI, 8, .inl vu_708)), (bh, .inl (cI, 12, .inl vh_708)), (bc, .inl (cI, 64, .inl vc_708)), (be, .inl (cI, 64, .inl ve_708)), (bt, .inl (cI, 36, .inl vt_708)), (bx, .inl (cI, 48, .inl vx_708))] ++ w) → va_S AA s.heap H locs → ∀ ls : Array Slot, lv_has ls 14 [(0, .ref t0), (1, .ref bg), (11, .int y11_708), (12, .int y12_708)] → f_L_acts_J708 y11_708 y12_708 z0_708 z1_708 vg_708 vu_708 vh_708 vc_708 ve_708 vt_708 vx_708 og_708 = some R → W p l e rmL_acts s m args below meth c H locs 0 0 Q (F0 m 708 ls [.int z0_708, .int z1_708, .ref bg]) := by
    intro y11_708 y12_708 z0_708 z1_708 vg_708 vu_708 vh_708 vc_708 ve_708 vt_708 vx_708 og_708 w H locs hT hP hD hS ls hl hf
    rw [f_L_acts_J708] at hf
    obtain ⟨hg48, hf⟩ := gd_s hf
    refine x_iast hx hb hK hP hD hS 0 0 rfl rfl hg48 dL_acts_708 (fun Z49 H locs eZ49 hP hD hS => ?_)
    replace hf := lt_e eZ49 hf
    have hP : va_P D vwCl ([(bg, .inl (cI, 15, .inl Z49)), (bu, .inl (cI, 8, .inl vu_708)), (bh, .inl (cI, 12, .inl vh_708)), (bc, .inl (cI, 64, .inl vc_708)), (be, .inl (cI, 64, .inl ve_708)), (bt, .inl (cI, 36, .inl vt_708)), (bx, .inl (cI, 48, .inl vx_708))] ++ w) H := hP
    have hD : va_D AA ([(bg, .inl (cI, 15, .inl Z49)), (bu, .inl (cI, 8, .inl vu_708)), (bh, .inl (cI, 12, .inl vh_708)), (bc, .inl (cI, 64, .inl vc_708)), (be, .inl (cI, 64, .inl ve_708)), (bt, .inl (cI, 36, .inl vt_708)), (bx, .inl (cI, 48, .inl vx_708))] ++ w) := hD
    refine lv_aload_n hx hb dL_acts_709 rfl (lv_at hl 0 rfl) ?_
    refine lv_iload hx hb dL_acts_710 (lv_at hl 2 rfl) ?_
    refine lv_aload_n hx hb dL_acts_712 rfl (lv_at hl 1 rfl) ?_
    refine lv_bipush (v := (7 : Int32)) hx hb dL_acts_713 (by decide) ?_
    refine lv_iload hx hb dL_acts_715 (lv_at hl 2 rfl) ?_
    refine lv_iadd hx hb dL_acts_717 ?_
    obtain ⟨hg50, hf⟩ := gd_s hf
    refine va_iald hx hb hK hP 0 0 rfl rfl hg50 dL_acts_718 ?_
    obtain ⟨q51, hq51, hf⟩ := ob hf
    refine cl_SO (As := [.int y11_708, .int (Z49 ((7 : Int32) + y11_708).toNatClampNeg)]) (rest := []) hF hP hD hS hST (oo_set hT y11_708 (Z49 ((7 : Int32) + y11_708).toNatClampNeg) q51 hq51) (cwV 2 hts gL_acts_X7_set rfl rfl rfl (by decide +kernel) ⟨(Nat.le_of_ble_eq_true rfl), (Nat.le_of_ble_eq_true rfl)⟩) rfl rfl hl.1 (Nat.le_of_ble_eq_true rfl) dL_acts_719 ⟨Nat.zero_le _, Nat.zero_le _⟩ (fun w H locs hT hP hD hS => ?_)
    refine lv_iload hx hb dL_acts_722 (lv_at hl 3 rfl) ?_
    refine lv_icmp_ne (tgt := 731) hx hb dL_acts_724 (by decide) (fun hc52 => ?_) (fun hc52 => ?_)
    · replace hf := ie hc52 hf
      refine lv_iconst (v := (0 : Int32)) hx hb dL_acts_731 (by decide) ?_
      obtain rfl := Option.some.inj hf
      exact ret 732 ls _ w H locs dL_acts_732 (by decide) rfl hT hP hS
    · replace hf := it hc52 hf
      refine lv_iconst (v := (1 : Int32)) hx hb dL_acts_727 (by decide) ?_
      refine lv_goto (tgt := 732) hx hb dL_acts_728 (by decide) ?_
      obtain rfl := Option.some.inj hf
      exact ret 732 ls _ w H locs dL_acts_732 (by decide) rfl hT hP hS
  have J506 : ∀ (z0_506 : Int32) (z1_506 : Int32) (z2_506 : Int32) (vg_506 : Nat → Int32) (vu_506 : Nat → Int32) (vh_506 : Nat → Int32) (vc_506 : Nat → Int32) (ve_506 : Nat → Int32) (vt_506 : Nat → Int32) (vx_506 : Nat → Int32) (og_506 : Sp) (w : va_W) (H : Heap) (locs : List Loc), OB cI cC t0 w0 og_506 w → va_P D vwCl ([(bg, .inl (cI, 15, .inl vg_506)), (bu, .inl (cI, 8, .inl vu_506)), (bh, .inl (cI, 12, .inl vh_506)), (bc, .inl (cI, 64, .inl vc_506)), (be, .inl (cI, 64, .inl ve_506)), (bt, .inl (cI, 36, .inl vt_506)), (bx, .inl (cI, 48, .inl vx_506))] ++ w) H → va_D AA ([(bg, .inl (cI, 15, .inl vg_506)), (bu, .inl (cI, 8, .inl vu_506)), (bh, .inl (cI, 12, .inl vh_506)), (bc, .inl (cI, 64, .inl vc_506)), (be, .inl (cI, 64, .inl ve_506)), (bt, .inl (cI, 36, .inl vt_506)), (bx, .inl (cI, 48, .inl vx_506))] ++ w) → va_S AA s.heap H locs → ∀ ls : Array Slot, lv_has ls 14 [(0, .ref t0), (1, .ref bg), (2, .ref bu)] → f_L_acts_J506 z0_506 z1_506 z2_506 vg_506 vu_506 vh_506 vc_506 ve_506 vt_506 vx_506 og_506 = some R → W p l e rmL_acts s m args below meth c H locs 0 0 Q (F0 m 506 ls [.int z0_506, .int z1_506, .int z2_506]) := by
    intro z0_506 z1_506 z2_506 vg_506 vu_506 vh_506 vc_506 ve_506 vt_506 vx_506 og_506 w H locs hT hP hD hS ls hl hf
    rw [f_L_acts_J506] at hf
    obtain ⟨hg53, hf⟩ := gd_s hf
    refine lv_irem hx hb dL_acts_506 hg53 ?_
    refine lv_iadd hx hb dL_acts_507 ?_
    refine lv_topi (fun v54 ev54 => ?_)
    replace hf := lt_e ev54 hf
    refine lv_istore (lv' := [(11, .int v54), (0, .ref t0), (1, .ref bg), (2, .ref bu)]) hx hb dL_acts_508 hl (by decide) rfl (fun ls hl => ?_)
    refine lv_aload_n hx hb dL_acts_510 rfl (lv_at hl 1 rfl) ?_
    refine lv_iload hx hb dL_acts_511 (lv_at hl 0 rfl) ?_
    obtain ⟨q55, hq55, hf⟩ := ob hf
    refine cl_WO (As := [.int v54]) (rest := []) hF hP hD hS (oo_rest hT v54 q55 hq55) (cwV 1 hts gL_acts_X7_rest rfl rfl rfl (by decide +kernel) ⟨(Nat.le_of_ble_eq_true rfl), (Nat.le_of_ble_eq_true rfl)⟩) rfl rfl hl.1 (Nat.le_of_ble_eq_true rfl) dL_acts_513 ⟨Nat.zero_le _, Nat.zero_le _⟩ (fun w H locs hT hP hD hS => ?_)
    refine lv_aload_n hx hb dL_acts_516 rfl (lv_at hl 2 rfl) ?_
    refine lv_aload_n hx hb dL_acts_517 rfl (lv_at hl 3 rfl) ?_
    refine lv_iload hx hb dL_acts_518 (lv_at hl 0 rfl) ?_
    obtain ⟨q56, hq56, hf⟩ := ob hf
    refine cl_WSL (X0 := [(bg, .inl (cI, 15, .inl vg_506)), (bu, .inl (cI, 8, .inl vu_506)), (bh, .inl (cI, 12, .inl vh_506)), (bc, .inl (cI, 64, .inl vc_506)), (be, .inl (cI, 64, .inl ve_506)), (bt, .inl (cI, 36, .inl vt_506)), (bx, .inl (cI, 48, .inl vx_506))]) (X1 := [(bg, .inl (cI, 15, .inl q56.2.1)), (bu, .inl (cI, 8, .inl q56.2.2)), (bh, .inl (cI, 12, .inl vh_506)), (bc, .inl (cI, 64, .inl vc_506)), (be, .inl (cI, 64, .inl ve_506)), (bt, .inl (cI, 36, .inl vt_506)), (bx, .inl (cI, 48, .inl vx_506))]) (As := [.ref bg, .ref bu, .int v54]) (rest := [.int q55.1]) hF hP hD hS (c_L_pass bg bu v54 vg_506 vu_506 q56 hq56) (va_cwS 3 hts gL_acts_L_pass rfl rfl rfl (by decide +kernel) ⟨(Nat.le_of_ble_eq_true rfl), (Nat.le_of_ble_eq_true rfl)⟩) [0, 1] rfl (by decide +kernel) rfl rfl hl.1 (Nat.le_of_ble_eq_true rfl) dL_acts_520 ⟨Nat.zero_le _, Nat.zero_le _⟩ (hA2 [bg, bu] rfl rfl) [2, 3, 4, 5, 6] rfl [(bh, .inl (cI, 12, .inl vh_506)), (bc, .inl (cI, 64, .inl vc_506)), (be, .inl (cI, 64, .inl ve_506)), (bt, .inl (cI, 36, .inl vt_506)), (bx, .inl (cI, 48, .inl vx_506))] rfl rfl (nX := 7) rfl rfl (by decide +kernel) (fun H locs hP hD hS => ?_)
    refine lv_icmp_ne (tgt := 530) hx hb dL_acts_523 (by decide) (fun hc57 => ?_) (fun hc57 => ?_)
    · replace hf := ie hc57 hf
      refine lv_iconst (v := (0 : Int32)) hx hb dL_acts_530 (by decide) ?_
      clear J708
      obtain rfl := Option.some.inj hf
      exact ret 531 ls _ w H locs dL_acts_531 (by decide) rfl hT hP hS
    · replace hf := it hc57 hf
      refine lv_iconst (v := (1 : Int32)) hx hb dL_acts_526 (by decide) ?_
      refine lv_goto (tgt := 531) hx hb dL_acts_527 (by decide) ?_
      clear J708
      obtain rfl := Option.some.inj hf
      exact ret 531 ls _ w H locs dL_acts_531 (by decide) rfl hT hP hS
  have J299 : ∀ (y11_299 : Int32) (z0_299 : Int32) (z1_299 : Int32) (z2_299 : Int32) (vg_299 : Nat → Int32) (vu_299 : Nat → Int32) (vh_299 : Nat → Int32) (vc_299 : Nat → Int32) (ve_299 : Nat → Int32) (vt_299 : Nat → Int32) (vx_299 : Nat → Int32) (og_299 : Sp) (w : va_W) (H : Heap) (locs : List Loc), OB cI cC t0 w0 og_299 w → va_P D vwCl ([(bg, .inl (cI, 15, .inl vg_299)), (bu, .inl (cI, 8, .inl vu_299)), (bh, .inl (cI, 12, .inl vh_299)), (bc, .inl (cI, 64, .inl vc_299)), (be, .inl (cI, 64, .inl ve_299)), (bt, .inl (cI, 36, .inl vt_299)), (bx, .inl (cI, 48, .inl vx_299))] ++ w) H → va_D AA ([(bg, .inl (cI, 15, .inl vg_299)), (bu, .inl (cI, 8, .inl vu_299)), (bh, .inl (cI, 12, .inl vh_299)), (bc, .inl (cI, 64, .inl vc_299)), (be, .inl (cI, 64, .inl ve_299)), (bt, .inl (cI, 36, .inl vt_299)), (bx, .inl (cI, 48, .inl vx_299))] ++ w) → va_S AA s.heap H locs → ∀ ls : Array Slot, lv_has ls 14 [(0, .ref t0), (1, .ref bg), (2, .ref bu), (3, .ref bh), (4, .ref bc), (5, .ref be), (11, .int y11_299)] → f_L_acts_J299 y11_299 z0_299 z1_299 z2_299 vg_299 vu_299 vh_299 vc_299 ve_299 vt_299 vx_299 og_299 = some R → W p l e rmL_acts s m args below meth c H locs 0 0 Q (F0 m 299 ls [.int z0_299, .int z1_299, .int z2_299]) := by
    intro y11_299 z0_299 z1_299 z2_299 vg_299 vu_299 vh_299 vc_299 ve_299 vt_299 vx_299 og_299 w H locs hT hP hD hS ls hl hf
    rw [f_L_acts_J299] at hf
    obtain ⟨hg58, hf⟩ := gd_s hf
    refine lv_irem hx hb dL_acts_299 hg58 ?_
    refine lv_iadd hx hb dL_acts_300 ?_
    refine lv_topi (fun v59 ev59 => ?_)
    replace hf := lt_e ev59 hf
    refine lv_istore (lv' := [(12, .int v59), (0, .ref t0), (1, .ref bg), (2, .ref bu), (3, .ref bh), (4, .ref bc), (5, .ref be), (11, .int y11_299)]) hx hb dL_acts_301 hl (by decide) rfl (fun ls hl => ?_)
    refine lv_aload_n hx hb dL_acts_303 rfl (lv_at hl 2 rfl) ?_
    refine lv_aload_n hx hb dL_acts_304 rfl (lv_at hl 4 rfl) ?_
    refine lv_aload hx hb dL_acts_305 (lv_at hl 5 rfl) ?_
    refine lv_aload hx hb dL_acts_307 (lv_at hl 6 rfl) ?_
    refine lv_iload hx hb dL_acts_309 (lv_at hl 0 rfl) ?_
    obtain ⟨q60, hq60, hf⟩ := ob hf
    refine cl_RSL (X0 := [(bg, .inl (cI, 15, .inl vg_299)), (bu, .inl (cI, 8, .inl vu_299)), (bh, .inl (cI, 12, .inl vh_299)), (bc, .inl (cI, 64, .inl vc_299)), (be, .inl (cI, 64, .inl ve_299)), (bt, .inl (cI, 36, .inl vt_299)), (bx, .inl (cI, 48, .inl vx_299))]) (As := [.ref bg, .ref bh, .ref bc, .ref be, .int v59]) (rest := []) hF hP hD (c_L_can bg bh bc be v59 vg_299 vh_299 vc_299 ve_299 q60 hq60) (va_cwS 5 hts gL_acts_L_can rfl rfl rfl (by decide +kernel) ⟨(Nat.le_of_ble_eq_true rfl), (Nat.le_of_ble_eq_true rfl)⟩) [0, 2, 3, 4] rfl (by decide +kernel) rfl rfl hl.1 (Nat.le_of_ble_eq_true rfl) dL_acts_311 ⟨Nat.zero_le _, Nat.zero_le _⟩ ?_
    refine lv_istore (lv' := [(13, .int q60), (12, .int v59), (0, .ref t0), (1, .ref bg), (2, .ref bu), (3, .ref bh), (4, .ref bc), (5, .ref be), (11, .int y11_299)]) hx hb dL_acts_314 hl (by decide) rfl (fun ls hl => ?_)
    refine lv_iload hx hb dL_acts_316 (lv_at hl 0 rfl) ?_
    refine lv_if_ge (tgt := 340) hx hb dL_acts_318 (by decide) (fun hc61 => ?_) (fun hc61 => ?_)
    · replace hf := it hc61 hf
      refine lv_aload_n hx hb dL_acts_340 rfl (lv_at hl 3 rfl) ?_
      refine lv_aload_n hx hb dL_acts_341 rfl (lv_at hl 4 rfl) ?_
      refine lv_aload_n hx hb dL_acts_342 rfl (lv_at hl 5 rfl) ?_
      refine lv_aload hx hb dL_acts_343 (lv_at hl 6 rfl) ?_
      refine lv_aload hx hb dL_acts_345 (lv_at hl 7 rfl) ?_
      refine lv_iload hx hb dL_acts_347 (lv_at hl 8 rfl) ?_
      refine lv_iload hx hb dL_acts_349 (lv_at hl 1 rfl) ?_
      obtain ⟨q62, hq62, hf⟩ := ob hf
      refine cl_VSL (X0 := [(bg, .inl (cI, 15, .inl vg_299)), (bu, .inl (cI, 8, .inl vu_299)), (bh, .inl (cI, 12, .inl vh_299)), (bc, .inl (cI, 64, .inl vc_299)), (be, .inl (cI, 64, .inl ve_299)), (bt, .inl (cI, 36, .inl vt_299)), (bx, .inl (cI, 48, .inl vx_299))]) (X1 := [(bg, .inl (cI, 15, .inl q62.1)), (bu, .inl (cI, 8, .inl q62.2.1)), (bh, .inl (cI, 12, .inl q62.2.2.1)), (bc, .inl (cI, 64, .inl q62.2.2.2.1)), (be, .inl (cI, 64, .inl q62.2.2.2.2)), (bt, .inl (cI, 36, .inl vt_299)), (bx, .inl (cI, 48, .inl vx_299))]) (As := [.ref bg, .ref bu, .ref bh, .ref bc, .ref be, .int y11_299, .int v59]) (rest := []) hF hP hD hS (c_L_grind bg bu bh bc be y11_299 v59 vg_299 vu_299 vh_299 vc_299 ve_299 q62 hq62) (va_cwS 7 hts gL_acts_L_grind rfl rfl rfl (by decide +kernel) ⟨(Nat.le_of_ble_eq_true rfl), (Nat.le_of_ble_eq_true rfl)⟩) [0, 1, 2, 3, 4] rfl (by decide +kernel) rfl rfl hl.1 (Nat.le_of_ble_eq_true rfl) dL_acts_351 ⟨Nat.zero_le _, Nat.zero_le _⟩ (hA2 [bg, bu, bh, bc, be] rfl rfl) [5, 6] rfl [(bt, .inl (cI, 36, .inl vt_299)), (bx, .inl (cI, 48, .inl vx_299))] rfl rfl (nX := 7) rfl rfl (by decide +kernel) (fun H locs hP hD hS => ?_)
      refine lv_aload_n hx hb dL_acts_354 rfl (lv_at hl 3 rfl) ?_
      refine lv_aload_n hx hb dL_acts_355 rfl (lv_at hl 4 rfl) ?_
      refine lv_iload hx hb dL_acts_356 (lv_at hl 1 rfl) ?_
      refine lv_bipush (v := (9 : Int32)) hx hb dL_acts_358 (by decide) ?_
      refine lv_iadd hx hb dL_acts_360 ?_
      refine lv_bipush (v := (10 : Int32)) hx hb dL_acts_361 (by decide) ?_
      refine lv_idiv hx hb dL_acts_363 (by decide) ?_
      obtain ⟨q63, hq63, hf⟩ := ob hf
      refine cl_WSL (X0 := [(bg, .inl (cI, 15, .inl q62.1)), (bu, .inl (cI, 8, .inl q62.2.1)), (bh, .inl (cI, 12, .inl q62.2.2.1)), (bc, .inl (cI, 64, .inl q62.2.2.2.1)), (be, .inl (cI, 64, .inl q62.2.2.2.2)), (bt, .inl (cI, 36, .inl vt_299)), (bx, .inl (cI, 48, .inl vx_299))]) (X1 := [(bg, .inl (cI, 15, .inl q63.2.1)), (bu, .inl (cI, 8, .inl q63.2.2)), (bh, .inl (cI, 12, .inl q62.2.2.1)), (bc, .inl (cI, 64, .inl q62.2.2.2.1)), (be, .inl (cI, 64, .inl q62.2.2.2.2)), (bt, .inl (cI, 36, .inl vt_299)), (bx, .inl (cI, 48, .inl vx_299))]) (As := [.ref bg, .ref bu, .int ((v59 + (9 : Int32)) / (10 : Int32))]) (rest := []) hF hP hD hS (c_L_pass bg bu ((v59 + (9 : Int32)) / (10 : Int32)) q62.1 q62.2.1 q63 hq63) (va_cwS 3 hts gL_acts_L_pass rfl rfl rfl (by decide +kernel) ⟨(Nat.le_of_ble_eq_true rfl), (Nat.le_of_ble_eq_true rfl)⟩) [0, 1] rfl (by decide +kernel) rfl rfl hl.1 (Nat.le_of_ble_eq_true rfl) dL_acts_364 ⟨Nat.zero_le _, Nat.zero_le _⟩ (hA2 [bg, bu] rfl rfl) [2, 3, 4, 5, 6] rfl [(bh, .inl (cI, 12, .inl q62.2.2.1)), (bc, .inl (cI, 64, .inl q62.2.2.2.1)), (be, .inl (cI, 64, .inl q62.2.2.2.2)), (bt, .inl (cI, 36, .inl vt_299)), (bx, .inl (cI, 48, .inl vx_299))] rfl rfl (nX := 7) rfl rfl (by decide +kernel) (fun H locs hP hD hS => ?_)
      refine lv_pop hx hb dL_acts_367 rfl ?_
      refine lv_aload_n hx hb dL_acts_368 rfl (lv_at hl 2 rfl) ?_
      refine lv_iload hx hb dL_acts_369 (lv_at hl 8 rfl) ?_
      refine lv_iload hx hb dL_acts_371 (lv_at hl 1 rfl) ?_
      obtain ⟨q64, hq64, hf⟩ := ob hf
      refine cl_WO (As := [.int y11_299, .int v59]) (rest := []) hF hP hD hS (oo_grind hT y11_299 v59 q64 hq64) (cwV 2 hts gL_acts_X7_grind rfl rfl rfl (by decide +kernel) ⟨(Nat.le_of_ble_eq_true rfl), (Nat.le_of_ble_eq_true rfl)⟩) rfl rfl hl.1 (Nat.le_of_ble_eq_true rfl) dL_acts_373 ⟨Nat.zero_le _, Nat.zero_le _⟩ (fun w H locs hT hP hD hS => ?_)
      refine lv_iload hx hb dL_acts_376 (lv_at hl 0 rfl) ?_
      refine lv_icmp_ne (tgt := 385) hx hb dL_acts_378 (by decide) (fun hc65 => ?_) (fun hc65 => ?_)
      · replace hf := ie hc65 hf
        refine lv_iconst (v := (0 : Int32)) hx hb dL_acts_385 (by decide) ?_
        clear J506 J708
        obtain rfl := Option.some.inj hf
        exact ret 386 ls _ w H locs dL_acts_386 (by decide) rfl hT hP hS
      · replace hf := it hc65 hf
        refine lv_iconst (v := (1 : Int32)) hx hb dL_acts_381 (by decide) ?_
        refine lv_goto (tgt := 386) hx hb dL_acts_382 (by decide) ?_
        clear J506 J708
        obtain rfl := Option.some.inj hf
        exact ret 386 ls _ w H locs dL_acts_386 (by decide) rfl hT hP hS
    · replace hf := ie hc61 hf
      refine lv_aload_n hx hb dL_acts_321 rfl (lv_at hl 2 rfl) ?_
      refine lv_iload hx hb dL_acts_322 (lv_at hl 8 rfl) ?_
      refine lv_iload hx hb dL_acts_324 (lv_at hl 1 rfl) ?_
      obtain ⟨q66, hq66, hf⟩ := ob hf
      refine cl_WO (As := [.int y11_299, .int v59]) (rest := []) hF hP hD hS (oo_grind hT y11_299 v59 q66 hq66) (cwV 2 hts gL_acts_X7_grind rfl rfl rfl (by decide +kernel) ⟨(Nat.le_of_ble_eq_true rfl), (Nat.le_of_ble_eq_true rfl)⟩) rfl rfl hl.1 (Nat.le_of_ble_eq_true rfl) dL_acts_326 ⟨Nat.zero_le _, Nat.zero_le _⟩ (fun w H locs hT hP hD hS => ?_)
      refine lv_iload hx hb dL_acts_329 (lv_at hl 0 rfl) ?_
      refine lv_icmp_ne (tgt := 338) hx hb dL_acts_331 (by decide) (fun hc67 => ?_) (fun hc67 => ?_)
      · replace hf := ie hc67 hf
        refine lv_iconst (v := (0 : Int32)) hx hb dL_acts_338 (by decide) ?_
        clear J506 J708
        obtain rfl := Option.some.inj hf
        exact ret 339 ls _ w H locs dL_acts_339 (by decide) rfl hT hP hS
      · replace hf := it hc67 hf
        refine lv_iconst (v := (1 : Int32)) hx hb dL_acts_334 (by decide) ?_
        refine lv_goto (tgt := 339) hx hb dL_acts_335 (by decide) ?_
        clear J506 J708
        obtain rfl := Option.some.inj hf
        exact ret 339 ls _ w H locs dL_acts_339 (by decide) rfl hT hP hS
  have J235 : ∀ (y11_235 : Int32) (y12_235 : Int32) (vg_235 : Nat → Int32) (vu_235 : Nat → Int32) (vh_235 : Nat → Int32) (vc_235 : Nat → Int32) (ve_235 : Nat → Int32) (vt_235 : Nat → Int32) (vx_235 : Nat → Int32) (og_235 : Sp) (w : va_W) (H : Heap) (locs : List Loc), OB cI cC t0 w0 og_235 w → va_P D vwCl ([(bg, .inl (cI, 15, .inl vg_235)), (bu, .inl (cI, 8, .inl vu_235)), (bh, .inl (cI, 12, .inl vh_235)), (bc, .inl (cI, 64, .inl vc_235)), (be, .inl (cI, 64, .inl ve_235)), (bt, .inl (cI, 36, .inl vt_235)), (bx, .inl (cI, 48, .inl vx_235))] ++ w) H → va_D AA ([(bg, .inl (cI, 15, .inl vg_235)), (bu, .inl (cI, 8, .inl vu_235)), (bh, .inl (cI, 12, .inl vh_235)), (bc, .inl (cI, 64, .inl vc_235)), (be, .inl (cI, 64, .inl ve_235)), (bt, .inl (cI, 36, .inl vt_235)), (bx, .inl (cI, 48, .inl vx_235))] ++ w) → va_S AA s.heap H locs → ∀ ls : Array Slot, lv_has ls 14 [(0, .ref t0), (1, .ref bg), (3, .ref bh), (11, .int y11_235), (12, .int y12_235)] → f_L_acts_J235 y11_235 y12_235 vg_235 vu_235 vh_235 vc_235 ve_235 vt_235 vx_235 og_235 = some R → W p l e rmL_acts s m args below meth c H locs 0 0 Q (F0 m 235 ls []) := by
    intro y11_235 y12_235 vg_235 vu_235 vh_235 vc_235 ve_235 vt_235 vx_235 og_235 w H locs hT hP hD hS ls hl hf
    rw [f_L_acts_J235] at hf
    refine lv_aload_n hx hb dL_acts_235 rfl (lv_at hl 1 rfl) ?_
    refine lv_iconst (v := (1 : Int32)) hx hb dL_acts_236 (by decide) ?_
    refine lv_dup2_11 hx hb dL_acts_237 rfl rfl ?_
    refine va_iald hx hb hK hP 0 0 rfl rfl (show ¬ ((1 : Int32) < 0 ∨ 15 ≤ (1 : Int32).toNatClampNeg) by decide) dL_acts_238 ?_
    refine lv_iload hx hb dL_acts_239 (lv_at hl 4 rfl) ?_
    refine lv_iadd hx hb dL_acts_241 ?_
    refine lv_topi (fun v91 ev91 => ?_)
    replace hf := lt_e ev91 hf
    refine x_iast hx hb hK hP hD hS 0 0 rfl rfl (show ¬ ((1 : Int32) < 0 ∨ 15 ≤ (1 : Int32).toNatClampNeg) by decide) dL_acts_242 (fun Z92 H locs eZ92 hP hD hS => ?_)
    replace hf := lt_e eZ92 hf
    have hP : va_P D vwCl ([(bg, .inl (cI, 15, .inl Z92)), (bu, .inl (cI, 8, .inl vu_235)), (bh, .inl (cI, 12, .inl vh_235)), (bc, .inl (cI, 64, .inl vc_235)), (be, .inl (cI, 64, .inl ve_235)), (bt, .inl (cI, 36, .inl vt_235)), (bx, .inl (cI, 48, .inl vx_235))] ++ w) H := hP
    have hD : va_D AA ([(bg, .inl (cI, 15, .inl Z92)), (bu, .inl (cI, 8, .inl vu_235)), (bh, .inl (cI, 12, .inl vh_235)), (bc, .inl (cI, 64, .inl vc_235)), (be, .inl (cI, 64, .inl ve_235)), (bt, .inl (cI, 36, .inl vt_235)), (bx, .inl (cI, 48, .inl vx_235))] ++ w) := hD
    refine lv_aload_n hx hb dL_acts_243 rfl (lv_at hl 0 rfl) ?_
    refine lv_iload hx hb dL_acts_244 (lv_at hl 3 rfl) ?_
    refine lv_iload hx hb dL_acts_246 (lv_at hl 4 rfl) ?_
    obtain ⟨q93, hq93, hf⟩ := ob hf
    refine cl_WO (As := [.int y11_235, .int y12_235]) (rest := []) hF hP hD hS (oo_fill hT y11_235 y12_235 q93 hq93) (cwV 2 hts gL_acts_X7_fill rfl rfl rfl (by decide +kernel) ⟨(Nat.le_of_ble_eq_true rfl), (Nat.le_of_ble_eq_true rfl)⟩) rfl rfl hl.1 (Nat.le_of_ble_eq_true rfl) dL_acts_248 ⟨Nat.zero_le _, Nat.zero_le _⟩ (fun w H locs hT hP hD hS => ?_)
    refine lv_aload_n hx hb dL_acts_251 rfl (lv_at hl 1 rfl) ?_
    refine lv_aload_n hx hb dL_acts_252 rfl (lv_at hl 2 rfl) ?_
    obtain ⟨q94, hq94, hf⟩ := ob hf
    refine cl_RSL (X0 := [(bg, .inl (cI, 15, .inl Z92)), (bu, .inl (cI, 8, .inl vu_235)), (bh, .inl (cI, 12, .inl vh_235)), (bc, .inl (cI, 64, .inl vc_235)), (be, .inl (cI, 64, .inl ve_235)), (bt, .inl (cI, 36, .inl vt_235)), (bx, .inl (cI, 48, .inl vx_235))]) (As := [.ref bg, .ref bh]) (rest := [.int q93.1]) hF hP hD (c_L_hopper bg bh Z92 vh_235 q94 hq94) (va_cwS 2 hts gL_acts_L_hopper rfl rfl rfl (by decide +kernel) ⟨(Nat.le_of_ble_eq_true rfl), (Nat.le_of_ble_eq_true rfl)⟩) [0, 2] rfl (by decide +kernel) rfl rfl hl.1 (Nat.le_of_ble_eq_true rfl) dL_acts_253 ⟨Nat.zero_le _, Nat.zero_le _⟩ ?_
    refine lv_icmp_ne (tgt := 263) hx hb dL_acts_256 (by decide) (fun hc95 => ?_) (fun hc95 => ?_)
    · replace hf := ie hc95 hf
      refine lv_iconst (v := (0 : Int32)) hx hb dL_acts_263 (by decide) ?_
      clear J299 J506 J708
      obtain rfl := Option.some.inj hf
      exact ret 264 ls _ w H locs dL_acts_264 (by decide) rfl hT hP hS
    · replace hf := it hc95 hf
      refine lv_iconst (v := (1 : Int32)) hx hb dL_acts_259 (by decide) ?_
      refine lv_goto (tgt := 264) hx hb dL_acts_260 (by decide) ?_
      clear J299 J506 J708
      obtain rfl := Option.some.inj hf
      exact ret 264 ls _ w H locs dL_acts_264 (by decide) rfl hT hP hS
  have J163 : ∀ (y11_163 : Int32) (y12_163 : Int32) (vg_163 : Nat → Int32) (vu_163 : Nat → Int32) (vh_163 : Nat → Int32) (vc_163 : Nat → Int32) (ve_163 : Nat → Int32) (vt_163 : Nat → Int32) (vx_163 : Nat → Int32) (og_163 : Sp) (w : va_W) (H : Heap) (locs : List Loc), OB cI cC t0 w0 og_163 w → va_P D vwCl ([(bg, .inl (cI, 15, .inl vg_163)), (bu, .inl (cI, 8, .inl vu_163)), (bh, .inl (cI, 12, .inl vh_163)), (bc, .inl (cI, 64, .inl vc_163)), (be, .inl (cI, 64, .inl ve_163)), (bt, .inl (cI, 36, .inl vt_163)), (bx, .inl (cI, 48, .inl vx_163))] ++ w) H → va_D AA ([(bg, .inl (cI, 15, .inl vg_163)), (bu, .inl (cI, 8, .inl vu_163)), (bh, .inl (cI, 12, .inl vh_163)), (bc, .inl (cI, 64, .inl vc_163)), (be, .inl (cI, 64, .inl ve_163)), (bt, .inl (cI, 36, .inl vt_163)), (bx, .inl (cI, 48, .inl vx_163))] ++ w) → va_S AA s.heap H locs → ∀ ls : Array Slot, lv_has ls 14 [(0, .ref t0), (11, .int y11_163), (12, .int y12_163)] → f_L_acts_J163 y11_163 y12_163 vg_163 vu_163 vh_163 vc_163 ve_163 vt_163 vx_163 og_163 = some R → W p l e rmL_acts s m args below meth c H locs 0 0 Q (F0 m 163 ls []) := by
    intro y11_163 y12_163 vg_163 vu_163 vh_163 vc_163 ve_163 vt_163 vx_163 og_163 w H locs hT hP hD hS ls hl hf
    rw [f_L_acts_J163] at hf
    refine lv_aload_n hx hb dL_acts_163 rfl (lv_at hl 0 rfl) ?_
    refine lv_iload hx hb dL_acts_164 (lv_at hl 1 rfl) ?_
    refine lv_iload hx hb dL_acts_166 (lv_at hl 2 rfl) ?_
    obtain ⟨q89, hq89, hf⟩ := ob hf
    refine cl_WO (As := [.int y11_163, .int y12_163]) (rest := []) hF hP hD hS (oo_fill hT y11_163 y12_163 q89 hq89) (cwV 2 hts gL_acts_X7_fill rfl rfl rfl (by decide +kernel) ⟨(Nat.le_of_ble_eq_true rfl), (Nat.le_of_ble_eq_true rfl)⟩) rfl rfl hl.1 (Nat.le_of_ble_eq_true rfl) dL_acts_168 ⟨Nat.zero_le _, Nat.zero_le _⟩ (fun w H locs hT hP hD hS => ?_)
    refine lv_ldc hx hb hown k2_ dL_acts_171 ?_
    refine lv_icmp_ne (tgt := 180) hx hb dL_acts_173 (by decide) (fun hc90 => ?_) (fun hc90 => ?_)
    · replace hf := ie hc90 hf
      refine lv_iconst (v := (0 : Int32)) hx hb dL_acts_180 (by decide) ?_
      clear J235 J299 J506 J708
      obtain rfl := Option.some.inj hf
      exact ret 181 ls _ w H locs dL_acts_181 (by decide) rfl hT hP hS
    · replace hf := it hc90 hf
      refine lv_iconst (v := (1 : Int32)) hx hb dL_acts_176 (by decide) ?_
      refine lv_goto (tgt := 181) hx hb dL_acts_177 (by decide) ?_
      clear J235 J299 J506 J708
      obtain rfl := Option.some.inj hf
      exact ret 181 ls _ w H locs dL_acts_181 (by decide) rfl hT hP hS
  have J149 : ∀ (y11_149 : Int32) (y12_149 : Int32) (y13_149 : Int32) (vg_149 : Nat → Int32) (vu_149 : Nat → Int32) (vh_149 : Nat → Int32) (vc_149 : Nat → Int32) (ve_149 : Nat → Int32) (vt_149 : Nat → Int32) (vx_149 : Nat → Int32) (og_149 : Sp) (w : va_W) (H : Heap) (locs : List Loc), OB cI cC t0 w0 og_149 w → va_P D vwCl ([(bg, .inl (cI, 15, .inl vg_149)), (bu, .inl (cI, 8, .inl vu_149)), (bh, .inl (cI, 12, .inl vh_149)), (bc, .inl (cI, 64, .inl vc_149)), (be, .inl (cI, 64, .inl ve_149)), (bt, .inl (cI, 36, .inl vt_149)), (bx, .inl (cI, 48, .inl vx_149))] ++ w) H → va_D AA ([(bg, .inl (cI, 15, .inl vg_149)), (bu, .inl (cI, 8, .inl vu_149)), (bh, .inl (cI, 12, .inl vh_149)), (bc, .inl (cI, 64, .inl vc_149)), (be, .inl (cI, 64, .inl ve_149)), (bt, .inl (cI, 36, .inl vt_149)), (bx, .inl (cI, 48, .inl vx_149))] ++ w) → va_S AA s.heap H locs → ∀ ls : Array Slot, lv_has ls 14 [(0, .ref t0), (1, .ref bg), (3, .ref bh), (11, .int y11_149), (12, .int y12_149), (13, .int y13_149)] → f_L_acts_J149 y11_149 y12_149 y13_149 vg_149 vu_149 vh_149 vc_149 ve_149 vt_149 vx_149 og_149 = some R → W p l e rmL_acts s m args below meth c H locs 0 0 Q (F0 m 149 ls []) := by
    intro y11_149 y12_149 y13_149 vg_149 vu_149 vh_149 vc_149 ve_149 vt_149 vx_149 og_149 w H locs hT hP hD hS ls hl hf
    rw [f_L_acts_J149] at hf
    refine lv_aload_n hx hb dL_acts_149 rfl (lv_at hl 1 rfl) ?_
    refine lv_aload_n hx hb dL_acts_150 rfl (lv_at hl 2 rfl) ?_
    obtain ⟨q75, hq75, hf⟩ := ob hf
    refine cl_RSL (X0 := [(bg, .inl (cI, 15, .inl vg_149)), (bu, .inl (cI, 8, .inl vu_149)), (bh, .inl (cI, 12, .inl vh_149)), (bc, .inl (cI, 64, .inl vc_149)), (be, .inl (cI, 64, .inl ve_149)), (bt, .inl (cI, 36, .inl vt_149)), (bx, .inl (cI, 48, .inl vx_149))]) (As := [.ref bg, .ref bh]) (rest := []) hF hP hD (c_L_hopper bg bh vg_149 vh_149 q75 hq75) (va_cwS 2 hts gL_acts_L_hopper rfl rfl rfl (by decide +kernel) ⟨(Nat.le_of_ble_eq_true rfl), (Nat.le_of_ble_eq_true rfl)⟩) [0, 2] rfl (by decide +kernel) rfl rfl hl.1 (Nat.le_of_ble_eq_true rfl) dL_acts_151 ⟨Nat.zero_le _, Nat.zero_le _⟩ ?_
    refine lv_iload hx hb dL_acts_154 (lv_at hl 4 rfl) ?_
    refine lv_iadd hx hb dL_acts_156 ?_
    refine lv_sipush (v := (4000 : Int32)) hx hb dL_acts_157 (by decide) ?_
    refine lv_icmp_le (tgt := 182) hx hb dL_acts_160 (by decide) (fun hc76 => ?_) (fun hc76 => ?_)
    · replace hf := it hc76 hf
      refine lv_iload hx hb dL_acts_182 (lv_at hl 5 rfl) ?_
      refine lv_if_eq (tgt := 205) hx hb dL_acts_184 (by decide) (fun hc77 => ?_) (fun hc77 => ?_)
      · replace hf := it hc77 hf
        refine lv_aload_n hx hb dL_acts_205 rfl (lv_at hl 2 rfl) ?_
        refine lv_iconst (v := (2 : Int32)) hx hb dL_acts_206 (by decide) ?_
        refine lv_aload_n hx hb dL_acts_207 rfl (lv_at hl 1 rfl) ?_
        refine lv_bipush (v := (13 : Int32)) hx hb dL_acts_208 (by decide) ?_
        refine va_iald hx hb hK hP 0 0 rfl rfl (show ¬ ((13 : Int32) < 0 ∨ 15 ≤ (13 : Int32).toNatClampNeg) by decide) dL_acts_210 ?_
        refine lv_imul hx hb dL_acts_211 ?_
        refine lv_iload hx hb dL_acts_212 (lv_at hl 3 rfl) ?_
        obtain ⟨hg78, hf⟩ := gd_s hf
        refine x_iast hx hb hK hP hD hS 2 0 rfl rfl hg78 dL_acts_214 (fun Z79 H locs eZ79 hP hD hS => ?_)
        replace hf := lt_e eZ79 hf
        have hP : va_P D vwCl ([(bg, .inl (cI, 15, .inl vg_149)), (bu, .inl (cI, 8, .inl vu_149)), (bh, .inl (cI, 12, .inl Z79)), (bc, .inl (cI, 64, .inl vc_149)), (be, .inl (cI, 64, .inl ve_149)), (bt, .inl (cI, 36, .inl vt_149)), (bx, .inl (cI, 48, .inl vx_149))] ++ w) H := hP
        have hD : va_D AA ([(bg, .inl (cI, 15, .inl vg_149)), (bu, .inl (cI, 8, .inl vu_149)), (bh, .inl (cI, 12, .inl Z79)), (bc, .inl (cI, 64, .inl vc_149)), (be, .inl (cI, 64, .inl ve_149)), (bt, .inl (cI, 36, .inl vt_149)), (bx, .inl (cI, 48, .inl vx_149))] ++ w) := hD
        refine lv_aload_n hx hb dL_acts_215 rfl (lv_at hl 2 rfl) ?_
        refine lv_iconst (v := (2 : Int32)) hx hb dL_acts_216 (by decide) ?_
        refine lv_aload_n hx hb dL_acts_217 rfl (lv_at hl 1 rfl) ?_
        refine lv_bipush (v := (13 : Int32)) hx hb dL_acts_218 (by decide) ?_
        refine va_iald hx hb hK hP 0 0 rfl rfl (show ¬ ((13 : Int32) < 0 ∨ 15 ≤ (13 : Int32).toNatClampNeg) by decide) dL_acts_220 ?_
        refine lv_imul hx hb dL_acts_221 ?_
        refine lv_iconst (v := (1 : Int32)) hx hb dL_acts_222 (by decide) ?_
        refine lv_iadd hx hb dL_acts_223 ?_
        refine lv_iload hx hb dL_acts_224 (lv_at hl 4 rfl) ?_
        obtain ⟨hg80, hf⟩ := gd_s hf
        refine x_iast hx hb hK hP hD hS 2 0 rfl rfl hg80 dL_acts_226 (fun Z81 H locs eZ81 hP hD hS => ?_)
        replace hf := lt_e eZ81 hf
        have hP : va_P D vwCl ([(bg, .inl (cI, 15, .inl vg_149)), (bu, .inl (cI, 8, .inl vu_149)), (bh, .inl (cI, 12, .inl Z81)), (bc, .inl (cI, 64, .inl vc_149)), (be, .inl (cI, 64, .inl ve_149)), (bt, .inl (cI, 36, .inl vt_149)), (bx, .inl (cI, 48, .inl vx_149))] ++ w) H := hP
        have hD : va_D AA ([(bg, .inl (cI, 15, .inl vg_149)), (bu, .inl (cI, 8, .inl vu_149)), (bh, .inl (cI, 12, .inl Z81)), (bc, .inl (cI, 64, .inl vc_149)), (be, .inl (cI, 64, .inl ve_149)), (bt, .inl (cI, 36, .inl vt_149)), (bx, .inl (cI, 48, .inl vx_149))] ++ w) := hD
        refine lv_aload_n hx hb dL_acts_227 rfl (lv_at hl 1 rfl) ?_
        refine lv_bipush (v := (13 : Int32)) hx hb dL_acts_228 (by decide) ?_
        refine lv_dup2_11 hx hb dL_acts_230 rfl rfl ?_
        refine va_iald hx hb hK hP 0 0 rfl rfl (show ¬ ((13 : Int32) < 0 ∨ 15 ≤ (13 : Int32).toNatClampNeg) by decide) dL_acts_231 ?_
        refine lv_iconst (v := (1 : Int32)) hx hb dL_acts_232 (by decide) ?_
        refine lv_iadd hx hb dL_acts_233 ?_
        refine lv_topi (fun v82 ev82 => ?_)
        replace hf := lt_e ev82 hf
        refine x_iast hx hb hK hP hD hS 0 0 rfl rfl (show ¬ ((13 : Int32) < 0 ∨ 15 ≤ (13 : Int32).toNatClampNeg) by decide) dL_acts_234 (fun Z83 H locs eZ83 hP hD hS => ?_)
        replace hf := lt_e eZ83 hf
        have hP : va_P D vwCl ([(bg, .inl (cI, 15, .inl Z83)), (bu, .inl (cI, 8, .inl vu_149)), (bh, .inl (cI, 12, .inl Z81)), (bc, .inl (cI, 64, .inl vc_149)), (be, .inl (cI, 64, .inl ve_149)), (bt, .inl (cI, 36, .inl vt_149)), (bx, .inl (cI, 48, .inl vx_149))] ++ w) H := hP
        have hD : va_D AA ([(bg, .inl (cI, 15, .inl Z83)), (bu, .inl (cI, 8, .inl vu_149)), (bh, .inl (cI, 12, .inl Z81)), (bc, .inl (cI, 64, .inl vc_149)), (be, .inl (cI, 64, .inl ve_149)), (bt, .inl (cI, 36, .inl vt_149)), (bx, .inl (cI, 48, .inl vx_149))] ++ w) := hD
        exact J235 y11_149 y12_149 Z83 vu_149 Z81 vc_149 ve_149 vt_149 vx_149 og_149 w H locs hT hP hD hS ls (lv_sub hl [0, 1, 2, 3, 4] rfl) hf
      · replace hf := ie hc77 hf
        refine lv_aload_n hx hb dL_acts_187 rfl (lv_at hl 2 rfl) ?_
        refine lv_iconst (v := (2 : Int32)) hx hb dL_acts_188 (by decide) ?_
        refine lv_aload_n hx hb dL_acts_189 rfl (lv_at hl 1 rfl) ?_
        refine lv_bipush (v := (13 : Int32)) hx hb dL_acts_190 (by decide) ?_
        refine va_iald hx hb hK hP 0 0 rfl rfl (show ¬ ((13 : Int32) < 0 ∨ 15 ≤ (13 : Int32).toNatClampNeg) by decide) dL_acts_192 ?_
        refine lv_imul hx hb dL_acts_193 ?_
        refine lv_iconst (v := (1 : Int32)) hx hb dL_acts_194 (by decide) ?_
        refine lv_isub hx hb dL_acts_195 ?_
        refine lv_topi (fun v84 ev84 => ?_)
        replace hf := lt_e ev84 hf
        refine lv_dup2_11 hx hb dL_acts_196 rfl rfl ?_
        obtain ⟨hg85, hf⟩ := gd_s hf
        refine va_iald hx hb hK hP 2 0 rfl rfl hg85 dL_acts_197 ?_
        refine lv_iload hx hb dL_acts_198 (lv_at hl 4 rfl) ?_
        refine lv_iadd hx hb dL_acts_200 ?_
        refine lv_topi (fun v86 ev86 => ?_)
        replace hf := lt_e ev86 hf
        obtain ⟨hg87, hf⟩ := gd_s hf
        refine x_iast hx hb hK hP hD hS 2 0 rfl rfl hg87 dL_acts_201 (fun Z88 H locs eZ88 hP hD hS => ?_)
        replace hf := lt_e eZ88 hf
        have hP : va_P D vwCl ([(bg, .inl (cI, 15, .inl vg_149)), (bu, .inl (cI, 8, .inl vu_149)), (bh, .inl (cI, 12, .inl Z88)), (bc, .inl (cI, 64, .inl vc_149)), (be, .inl (cI, 64, .inl ve_149)), (bt, .inl (cI, 36, .inl vt_149)), (bx, .inl (cI, 48, .inl vx_149))] ++ w) H := hP
        have hD : va_D AA ([(bg, .inl (cI, 15, .inl vg_149)), (bu, .inl (cI, 8, .inl vu_149)), (bh, .inl (cI, 12, .inl Z88)), (bc, .inl (cI, 64, .inl vc_149)), (be, .inl (cI, 64, .inl ve_149)), (bt, .inl (cI, 36, .inl vt_149)), (bx, .inl (cI, 48, .inl vx_149))] ++ w) := hD
        refine lv_goto (tgt := 235) hx hb dL_acts_202 (by decide) ?_
        exact J235 y11_149 y12_149 vg_149 vu_149 Z88 vc_149 ve_149 vt_149 vx_149 og_149 w H locs hT hP hD hS ls (lv_sub hl [0, 1, 2, 3, 4] rfl) hf
    · replace hf := ie hc76 hf
      exact J163 y11_149 y12_149 vg_149 vu_149 vh_149 vc_149 ve_149 vt_149 vx_149 og_149 w H locs hT hP hD hS ls (lv_sub hl [0, 3, 4] rfl) hf
  have J133 : ∀ (y11_133 : Int32) (y12_133 : Int32) (z0_133 : Int32) (vg_133 : Nat → Int32) (vu_133 : Nat → Int32) (vh_133 : Nat → Int32) (vc_133 : Nat → Int32) (ve_133 : Nat → Int32) (vt_133 : Nat → Int32) (vx_133 : Nat → Int32) (og_133 : Sp) (w : va_W) (H : Heap) (locs : List Loc), OB cI cC t0 w0 og_133 w → va_P D vwCl ([(bg, .inl (cI, 15, .inl vg_133)), (bu, .inl (cI, 8, .inl vu_133)), (bh, .inl (cI, 12, .inl vh_133)), (bc, .inl (cI, 64, .inl vc_133)), (be, .inl (cI, 64, .inl ve_133)), (bt, .inl (cI, 36, .inl vt_133)), (bx, .inl (cI, 48, .inl vx_133))] ++ w) H → va_D AA ([(bg, .inl (cI, 15, .inl vg_133)), (bu, .inl (cI, 8, .inl vu_133)), (bh, .inl (cI, 12, .inl vh_133)), (bc, .inl (cI, 64, .inl vc_133)), (be, .inl (cI, 64, .inl ve_133)), (bt, .inl (cI, 36, .inl vt_133)), (bx, .inl (cI, 48, .inl vx_133))] ++ w) → va_S AA s.heap H locs → ∀ ls : Array Slot, lv_has ls 14 [(0, .ref t0), (1, .ref bg), (3, .ref bh), (11, .int y11_133), (12, .int y12_133)] → f_L_acts_J133 y11_133 y12_133 z0_133 vg_133 vu_133 vh_133 vc_133 ve_133 vt_133 vx_133 og_133 = some R → W p l e rmL_acts s m args below meth c H locs 0 0 Q (F0 m 133 ls [.int z0_133]) := by
    intro y11_133 y12_133 z0_133 vg_133 vu_133 vh_133 vc_133 ve_133 vt_133 vx_133 og_133 w H locs hT hP hD hS ls hl hf
    rw [f_L_acts_J133] at hf
    refine lv_istore (lv' := [(13, .int z0_133), (0, .ref t0), (1, .ref bg), (3, .ref bh), (11, .int y11_133), (12, .int y12_133)]) hx hb dL_acts_133 hl (by decide) rfl (fun ls hl => ?_)
    refine lv_iload hx hb dL_acts_135 (lv_at hl 0 rfl) ?_
    refine lv_if_ne (tgt := 149) hx hb dL_acts_137 (by decide) (fun hc73 => ?_) (fun hc73 => ?_)
    · replace hf := ie hc73 hf
      exact J149 y11_133 y12_133 z0_133 vg_133 vu_133 vh_133 vc_133 ve_133 vt_133 vx_133 og_133 w H locs hT hP hD hS ls (lv_sub hl [1, 2, 3, 4, 5, 0] rfl) hf
    · replace hf := it hc73 hf
      refine lv_aload_n hx hb dL_acts_140 rfl (lv_at hl 2 rfl) ?_
      refine lv_bipush (v := (13 : Int32)) hx hb dL_acts_141 (by decide) ?_
      refine va_iald hx hb hK hP 0 0 rfl rfl (show ¬ ((13 : Int32) < 0 ∨ 15 ≤ (13 : Int32).toNatClampNeg) by decide) dL_acts_143 ?_
      refine lv_bipush (v := (6 : Int32)) hx hb dL_acts_144 (by decide) ?_
      refine lv_icmp_eq (tgt := 163) hx hb dL_acts_146 (by decide) (fun hc74 => ?_) (fun hc74 => ?_)
      · replace hf := it hc74 hf
        exact J163 y11_133 y12_133 vg_133 vu_133 vh_133 vc_133 ve_133 vt_133 vx_133 og_133 w H locs hT hP hD hS ls (lv_sub hl [1, 4, 5] rfl) hf
      · replace hf := ie hc74 hf
        exact J149 y11_133 y12_133 z0_133 vg_133 vu_133 vh_133 vc_133 ve_133 vt_133 vx_133 og_133 w H locs hT hP hD hS ls (lv_sub hl [1, 2, 3, 4, 5, 0] rfl) hf
  have J132 : ∀ (y11_132 : Int32) (y12_132 : Int32) (vg_132 : Nat → Int32) (vu_132 : Nat → Int32) (vh_132 : Nat → Int32) (vc_132 : Nat → Int32) (ve_132 : Nat → Int32) (vt_132 : Nat → Int32) (vx_132 : Nat → Int32) (og_132 : Sp) (w : va_W) (H : Heap) (locs : List Loc), OB cI cC t0 w0 og_132 w → va_P D vwCl ([(bg, .inl (cI, 15, .inl vg_132)), (bu, .inl (cI, 8, .inl vu_132)), (bh, .inl (cI, 12, .inl vh_132)), (bc, .inl (cI, 64, .inl vc_132)), (be, .inl (cI, 64, .inl ve_132)), (bt, .inl (cI, 36, .inl vt_132)), (bx, .inl (cI, 48, .inl vx_132))] ++ w) H → va_D AA ([(bg, .inl (cI, 15, .inl vg_132)), (bu, .inl (cI, 8, .inl vu_132)), (bh, .inl (cI, 12, .inl vh_132)), (bc, .inl (cI, 64, .inl vc_132)), (be, .inl (cI, 64, .inl ve_132)), (bt, .inl (cI, 36, .inl vt_132)), (bx, .inl (cI, 48, .inl vx_132))] ++ w) → va_S AA s.heap H locs → ∀ ls : Array Slot, lv_has ls 14 [(0, .ref t0), (1, .ref bg), (3, .ref bh), (11, .int y11_132), (12, .int y12_132)] → f_L_acts_J132 y11_132 y12_132 vg_132 vu_132 vh_132 vc_132 ve_132 vt_132 vx_132 og_132 = some R → W p l e rmL_acts s m args below meth c H locs 0 0 Q (F0 m 132 ls []) := by
    intro y11_132 y12_132 vg_132 vu_132 vh_132 vc_132 ve_132 vt_132 vx_132 og_132 w H locs hT hP hD hS ls hl hf
    rw [f_L_acts_J132] at hf
    refine lv_iconst (v := (0 : Int32)) hx hb dL_acts_132 (by decide) ?_
    exact J133 y11_132 y12_132 (0 : Int32) vg_132 vu_132 vh_132 vc_132 ve_132 vt_132 vx_132 og_132 w H locs hT hP hD hS ls (lv_sub hl [0, 1, 2, 3, 4] rfl) hf
  have J102 : ∀ (y11_102 : Int32) (z0_102 : Int32) (z1_102 : Int32) (z2_102 : Int32) (vg_102 : Nat → Int32) (vu_102 : Nat → Int32) (vh_102 : Nat → Int32) (vc_102 : Nat → Int32) (ve_102 : Nat → Int32) (vt_102 : Nat → Int32) (vx_102 : Nat → Int32) (og_102 : Sp) (w : va_W) (H : Heap) (locs : List Loc), OB cI cC t0 w0 og_102 w → va_P D vwCl ([(bg, .inl (cI, 15, .inl vg_102)), (bu, .inl (cI, 8, .inl vu_102)), (bh, .inl (cI, 12, .inl vh_102)), (bc, .inl (cI, 64, .inl vc_102)), (be, .inl (cI, 64, .inl ve_102)), (bt, .inl (cI, 36, .inl vt_102)), (bx, .inl (cI, 48, .inl vx_102))] ++ w) H → va_D AA ([(bg, .inl (cI, 15, .inl vg_102)), (bu, .inl (cI, 8, .inl vu_102)), (bh, .inl (cI, 12, .inl vh_102)), (bc, .inl (cI, 64, .inl vc_102)), (be, .inl (cI, 64, .inl ve_102)), (bt, .inl (cI, 36, .inl vt_102)), (bx, .inl (cI, 48, .inl vx_102))] ++ w) → va_S AA s.heap H locs → ∀ ls : Array Slot, lv_has ls 14 [(0, .ref t0), (1, .ref bg), (3, .ref bh), (11, .int y11_102)] → f_L_acts_J102 y11_102 z0_102 z1_102 z2_102 vg_102 vu_102 vh_102 vc_102 ve_102 vt_102 vx_102 og_102 = some R → W p l e rmL_acts s m args below meth c H locs 0 0 Q (F0 m 102 ls [.int z0_102, .int z1_102, .int z2_102]) := by
    intro y11_102 z0_102 z1_102 z2_102 vg_102 vu_102 vh_102 vc_102 ve_102 vt_102 vx_102 og_102 w H locs hT hP hD hS ls hl hf
    rw [f_L_acts_J102] at hf
    obtain ⟨hg68, hf⟩ := gd_s hf
    refine lv_irem hx hb dL_acts_102 hg68 ?_
    refine lv_iadd hx hb dL_acts_103 ?_
    refine lv_topi (fun v69 ev69 => ?_)
    replace hf := lt_e ev69 hf
    refine lv_istore (lv' := [(12, .int v69), (0, .ref t0), (1, .ref bg), (3, .ref bh), (11, .int y11_102)]) hx hb dL_acts_104 hl (by decide) rfl (fun ls hl => ?_)
    refine lv_aload_n hx hb dL_acts_106 rfl (lv_at hl 2 rfl) ?_
    refine lv_bipush (v := (13 : Int32)) hx hb dL_acts_107 (by decide) ?_
    refine va_iald hx hb hK hP 0 0 rfl rfl (show ¬ ((13 : Int32) < 0 ∨ 15 ≤ (13 : Int32).toNatClampNeg) by decide) dL_acts_109 ?_
    refine lv_if_le (tgt := 132) hx hb dL_acts_110 (by decide) (fun hc70 => ?_) (fun hc70 => ?_)
    · replace hf := it hc70 hf
      exact J132 y11_102 v69 vg_102 vu_102 vh_102 vc_102 ve_102 vt_102 vx_102 og_102 w H locs hT hP hD hS ls (lv_sub hl [1, 2, 3, 4, 0] rfl) hf
    · replace hf := ie hc70 hf
      refine lv_aload_n hx hb dL_acts_113 rfl (lv_at hl 3 rfl) ?_
      refine lv_iconst (v := (2 : Int32)) hx hb dL_acts_114 (by decide) ?_
      refine lv_aload_n hx hb dL_acts_115 rfl (lv_at hl 2 rfl) ?_
      refine lv_bipush (v := (13 : Int32)) hx hb dL_acts_116 (by decide) ?_
      refine va_iald hx hb hK hP 0 0 rfl rfl (show ¬ ((13 : Int32) < 0 ∨ 15 ≤ (13 : Int32).toNatClampNeg) by decide) dL_acts_118 ?_
      refine lv_imul hx hb dL_acts_119 ?_
      refine lv_iconst (v := (2 : Int32)) hx hb dL_acts_120 (by decide) ?_
      refine lv_isub hx hb dL_acts_121 ?_
      obtain ⟨hg71, hf⟩ := gd_s hf
      refine va_iald hx hb hK hP 2 0 rfl rfl hg71 dL_acts_122 ?_
      refine lv_iload hx hb dL_acts_123 (lv_at hl 4 rfl) ?_
      refine lv_icmp_ne (tgt := 132) hx hb dL_acts_125 (by decide) (fun hc72 => ?_) (fun hc72 => ?_)
      · replace hf := ie hc72 hf
        exact J132 y11_102 v69 vg_102 vu_102 vh_102 vc_102 ve_102 vt_102 vx_102 og_102 w H locs hT hP hD hS ls (lv_sub hl [1, 2, 3, 4, 0] rfl) hf
      · replace hf := it hc72 hf
        refine lv_iconst (v := (1 : Int32)) hx hb dL_acts_128 (by decide) ?_
        refine lv_goto (tgt := 133) hx hb dL_acts_129 (by decide) ?_
        exact J133 y11_102 v69 (1 : Int32) vg_102 vu_102 vh_102 vc_102 ve_102 vt_102 vx_102 og_102 w H locs hT hP hD hS ls (lv_sub hl [1, 2, 3, 4, 0] rfl) hf
  delta f_L_acts at hf
  obtain ⟨H, hH⟩ : ∃ z : Heap, z = s.heap := ⟨_, rfl⟩
  obtain ⟨locs, hL⟩ : ∃ z : List Loc, z = [] := ⟨_, rfl⟩
  replace hP := hH ▸ hP
  replace hS : va_S AA s.heap H locs := by rw [hH, hL]; exact hS
  suffices hgoal : W p l e rmL_acts s m args below meth c H locs 0 0 Q (F0 m 0 ls []) by rw [hH, hL] at hgoal; exact hgoal
  clear hH hL
  refine lv_iload hx hb dL_acts_0 (lv_at hl 8 rfl) ?_
  refine lv_iconst (v := (5 : Int32)) hx hb dL_acts_2 (by decide) ?_
  refine lv_ishr hx hb dL_acts_3 ?_
  refine lv_ldc hx hb hown k1_ dL_acts_4 ?_
  obtain ⟨q1, hq1, hf⟩ := ob hf
  refine cl_RSL (X0 := [(bg, .inl (cI, 15, .inl vg)), (bu, .inl (cI, 8, .inl vu)), (bh, .inl (cI, 12, .inl vh)), (bc, .inl (cI, 64, .inl vc)), (be, .inl (cI, 64, .inl ve)), (bt, .inl (cI, 36, .inl vt)), (bx, .inl (cI, 48, .inl vx))]) (As := [.int (x8 >>> ((5 : Int32) &&& 31)), .int (10000000 : Int32)]) (rest := []) hF hP hD (c_L_low (x8 >>> ((5 : Int32) &&& 31)) (10000000 : Int32) q1 hq1) (va_cwS 2 hts gL_acts_L_low rfl rfl rfl (by decide +kernel) ⟨(Nat.le_of_ble_eq_true rfl), (Nat.le_of_ble_eq_true rfl)⟩) [] rfl (by decide +kernel) rfl rfl hl.1 (Nat.le_of_ble_eq_true rfl) dL_acts_6 ⟨Nat.zero_le _, Nat.zero_le _⟩ ?_
  refine lv_istore (lv' := [(9, .int q1), (0, .ref t0), (1, .ref bg), (2, .ref bu), (3, .ref bh), (4, .ref bc), (5, .ref be), (6, .ref bt), (7, .ref bx), (8, .int x8)]) hx hb dL_acts_9 hl (by decide) rfl (fun ls hl => ?_)
  refine lv_iload hx hb dL_acts_11 (lv_at hl 9 rfl) ?_
  refine lv_bipush (v := (24 : Int32)) hx hb dL_acts_13 (by decide) ?_
  obtain ⟨q2, hq2, hf⟩ := ob hf
  refine cl_RSL (X0 := [(bg, .inl (cI, 15, .inl vg)), (bu, .inl (cI, 8, .inl vu)), (bh, .inl (cI, 12, .inl vh)), (bc, .inl (cI, 64, .inl vc)), (be, .inl (cI, 64, .inl ve)), (bt, .inl (cI, 36, .inl vt)), (bx, .inl (cI, 48, .inl vx))]) (As := [.int x8, .int (24 : Int32)]) (rest := []) hF hP hD (c_L_low x8 (24 : Int32) q2 hq2) (va_cwS 2 hts gL_acts_L_low rfl rfl rfl (by decide +kernel) ⟨(Nat.le_of_ble_eq_true rfl), (Nat.le_of_ble_eq_true rfl)⟩) [] rfl (by decide +kernel) rfl rfl hl.1 (Nat.le_of_ble_eq_true rfl) dL_acts_15 ⟨Nat.zero_le _, Nat.zero_le _⟩ ?_
  refine lv_istore (lv' := [(10, .int q2), (9, .int q1), (0, .ref t0), (1, .ref bg), (2, .ref bu), (3, .ref bh), (4, .ref bc), (5, .ref be), (6, .ref bt), (7, .ref bx), (8, .int x8)]) hx hb dL_acts_18 hl (by decide) rfl (fun ls hl => ?_)
  refine lv_aload hx hb dL_acts_20 (lv_at hl 7 rfl) ?_
  refine lv_iconst (v := (0 : Int32)) hx hb dL_acts_22 (by decide) ?_
  refine va_iald hx hb hK hP 4 0 rfl rfl (show ¬ ((0 : Int32) < 0 ∨ 64 ≤ (0 : Int32).toNatClampNeg) by decide) dL_acts_23 ?_
  refine lv_aload hx hb dL_acts_24 (lv_at hl 6 rfl) ?_
  refine lv_iconst (v := (0 : Int32)) hx hb dL_acts_26 (by decide) ?_
  refine va_iald hx hb hK hP 3 0 rfl rfl (show ¬ ((0 : Int32) < 0 ∨ 64 ≤ (0 : Int32).toNatClampNeg) by decide) dL_acts_27 ?_
  refine lv_iadd hx hb dL_acts_28 ?_
  refine lv_bipush (v := (46 : Int32)) hx hb dL_acts_29 (by decide) ?_
  refine lv_icmp_le (tgt := 68) hx hb dL_acts_31 (by decide) (fun hc3 => ?_) (fun hc3 => ?_)
  · replace hf := it hc3 hf
    refine lv_iload hx hb dL_acts_68 (lv_at hl 0 rfl) ?_
    refine lv_bipush (v := (6 : Int32)) hx hb dL_acts_70 (by decide) ?_
    refine lv_icmp_ge (tgt := 265) hx hb dL_acts_72 (by decide) (fun hc4 => ?_) (fun hc4 => ?_)
    · replace hf := it hc4 hf
      refine lv_iload hx hb dL_acts_265 (lv_at hl 0 rfl) ?_
      refine lv_bipush (v := (14 : Int32)) hx hb dL_acts_267 (by decide) ?_
      refine lv_icmp_ge (tgt := 387) hx hb dL_acts_269 (by decide) (fun hc5 => ?_) (fun hc5 => ?_)
      · replace hf := it hc5 hf
        refine lv_iload hx hb dL_acts_387 (lv_at hl 0 rfl) ?_
        refine lv_bipush (v := (17 : Int32)) hx hb dL_acts_389 (by decide) ?_
        refine lv_icmp_ge (tgt := 407) hx hb dL_acts_391 (by decide) (fun hc6 => ?_) (fun hc6 => ?_)
        · replace hf := it hc6 hf
          refine lv_iload hx hb dL_acts_407 (lv_at hl 0 rfl) ?_
          refine lv_bipush (v := (17 : Int32)) hx hb dL_acts_409 (by decide) ?_
          refine lv_icmp_ne (tgt := 422) hx hb dL_acts_411 (by decide) (fun hc7 => ?_) (fun hc7 => ?_)
          · replace hf := ie hc7 hf
            refine lv_iload hx hb dL_acts_422 (lv_at hl 0 rfl) ?_
            refine lv_bipush (v := (18 : Int32)) hx hb dL_acts_424 (by decide) ?_
            refine lv_icmp_ne (tgt := 481) hx hb dL_acts_426 (by decide) (fun hc8 => ?_) (fun hc8 => ?_)
            · replace hf := ie hc8 hf
              refine lv_iload hx hb dL_acts_481 (lv_at hl 0 rfl) ?_
              refine lv_bipush (v := (21 : Int32)) hx hb dL_acts_483 (by decide) ?_
              refine lv_icmp_ge (tgt := 532) hx hb dL_acts_485 (by decide) (fun hc9 => ?_) (fun hc9 => ?_)
              · replace hf := it hc9 hf
                refine lv_iload hx hb dL_acts_532 (lv_at hl 0 rfl) ?_
                refine lv_bipush (v := (21 : Int32)) hx hb dL_acts_534 (by decide) ?_
                refine lv_icmp_ne (tgt := 603) hx hb dL_acts_536 (by decide) (fun hc10 => ?_) (fun hc10 => ?_)
                · replace hf := ie hc10 hf
                  refine lv_iload hx hb dL_acts_603 (lv_at hl 1 rfl) ?_
                  refine lv_bipush (v := (6 : Int32)) hx hb dL_acts_605 (by decide) ?_
                  refine lv_irem hx hb dL_acts_607 (by decide) ?_
                  refine lv_topi (fun v11 ev11 => ?_)
                  replace hf := lt_e ev11 hf
                  refine lv_istore (lv' := [(11, .int v11), (10, .int q2), (9, .int q1), (0, .ref t0), (1, .ref bg), (2, .ref bu), (3, .ref bh), (4, .ref bc), (5, .ref be), (6, .ref bt), (7, .ref bx), (8, .int x8)]) hx hb dL_acts_608 hl (by decide) rfl (fun ls hl => ?_)
                  refine lv_aload_n hx hb dL_acts_610 rfl (lv_at hl 4 rfl) ?_
                  refine lv_bipush (v := (7 : Int32)) hx hb dL_acts_611 (by decide) ?_
                  refine lv_iload hx hb dL_acts_613 (lv_at hl 0 rfl) ?_
                  refine lv_iadd hx hb dL_acts_615 ?_
                  obtain ⟨hg12, hf⟩ := gd_s hf
                  refine va_iald hx hb hK hP 0 0 rfl rfl hg12 dL_acts_616 ?_
                  refine lv_topi (fun v13 ev13 => ?_)
                  replace hf := lt_e ev13 hf
                  refine lv_istore (lv' := [(12, .int v13), (11, .int v11), (10, .int q2), (9, .int q1), (0, .ref t0), (1, .ref bg), (2, .ref bu), (3, .ref bh), (4, .ref bc), (5, .ref be), (6, .ref bt), (7, .ref bx), (8, .int x8)]) hx hb dL_acts_617 hl (by decide) rfl (fun ls hl => ?_)
                  refine lv_aload_n hx hb dL_acts_619 rfl (lv_at hl 5 rfl) ?_
                  refine lv_bipush (v := (7 : Int32)) hx hb dL_acts_620 (by decide) ?_
                  refine lv_iload hx hb dL_acts_622 (lv_at hl 1 rfl) ?_
                  refine lv_iadd hx hb dL_acts_624 ?_
                  refine lv_iload hx hb dL_acts_625 (lv_at hl 1 rfl) ?_
                  refine lv_if_ne (tgt := 645) hx hb dL_acts_627 (by decide) (fun hc14 => ?_) (fun hc14 => ?_)
                  · replace hf := ie hc14 hf
                    refine lv_iload hx hb dL_acts_645 (lv_at hl 1 rfl) ?_
                    refine lv_iconst (v := (1 : Int32)) hx hb dL_acts_647 (by decide) ?_
                    refine lv_icmp_ne (tgt := 663) hx hb dL_acts_648 (by decide) (fun hc15 => ?_) (fun hc15 => ?_)
                    · replace hf := ie hc15 hf
                      refine lv_iload hx hb dL_acts_663 (lv_at hl 1 rfl) ?_
                      refine lv_iconst (v := (2 : Int32)) hx hb dL_acts_665 (by decide) ?_
                      refine lv_icmp_ne (tgt := 680) hx hb dL_acts_666 (by decide) (fun hc16 => ?_) (fun hc16 => ?_)
                      · replace hf := ie hc16 hf
                        refine lv_iload hx hb dL_acts_680 (lv_at hl 1 rfl) ?_
                        refine lv_iconst (v := (5 : Int32)) hx hb dL_acts_682 (by decide) ?_
                        refine lv_icmp_ge (tgt := 701) hx hb dL_acts_683 (by decide) (fun hc17 => ?_) (fun hc17 => ?_)
                        · replace hf := it hc17 hf
                          refine lv_iload hx hb dL_acts_701 (lv_at hl 3 rfl) ?_
                          refine lv_bipush (v := (6 : Int32)) hx hb dL_acts_703 (by decide) ?_
                          refine lv_idiv hx hb dL_acts_705 (by decide) ?_
                          refine lv_iconst (v := (2 : Int32)) hx hb dL_acts_706 (by decide) ?_
                          refine lv_irem hx hb dL_acts_707 (by decide) ?_
                          exact J708 v11 v13 ((q1 / (6 : Int32)) - (q1 / (6 : Int32)) / (2 : Int32) * (2 : Int32)) ((7 : Int32) + v11) vg vu vh vc ve vt vx og w H locs hT hP hD hS ls (lv_sub hl [4, 5, 1, 0] rfl) hf
                        · replace hf := ie hc17 hf
                          refine lv_bipush (v := (30 : Int32)) hx hb dL_acts_686 (by decide) ?_
                          refine lv_iload hx hb dL_acts_688 (lv_at hl 3 rfl) ?_
                          refine lv_bipush (v := (6 : Int32)) hx hb dL_acts_690 (by decide) ?_
                          refine lv_idiv hx hb dL_acts_692 (by decide) ?_
                          refine lv_sipush (v := (271 : Int32)) hx hb dL_acts_693 (by decide) ?_
                          refine lv_irem hx hb dL_acts_696 (by decide) ?_
                          refine lv_iadd hx hb dL_acts_697 ?_
                          refine lv_goto (tgt := 708) hx hb dL_acts_698 (by decide) ?_
                          exact J708 v11 v13 ((30 : Int32) + ((q1 / (6 : Int32)) - (q1 / (6 : Int32)) / (271 : Int32) * (271 : Int32))) ((7 : Int32) + v11) vg vu vh vc ve vt vx og w H locs hT hP hD hS ls (lv_sub hl [4, 5, 1, 0] rfl) hf
                      · replace hf := it hc16 hf
                        refine lv_iload hx hb dL_acts_669 (lv_at hl 3 rfl) ?_
                        refine lv_bipush (v := (6 : Int32)) hx hb dL_acts_671 (by decide) ?_
                        refine lv_idiv hx hb dL_acts_673 (by decide) ?_
                        refine lv_bipush (v := (101 : Int32)) hx hb dL_acts_674 (by decide) ?_
                        refine lv_irem hx hb dL_acts_676 (by decide) ?_
                        refine lv_goto (tgt := 708) hx hb dL_acts_677 (by decide) ?_
                        exact J708 v11 v13 ((q1 / (6 : Int32)) - (q1 / (6 : Int32)) / (101 : Int32) * (101 : Int32)) ((7 : Int32) + v11) vg vu vh vc ve vt vx og w H locs hT hP hD hS ls (lv_sub hl [4, 5, 1, 0] rfl) hf
                    · replace hf := it hc15 hf
                      refine lv_iload hx hb dL_acts_651 (lv_at hl 3 rfl) ?_
                      refine lv_bipush (v := (6 : Int32)) hx hb dL_acts_653 (by decide) ?_
                      refine lv_idiv hx hb dL_acts_655 (by decide) ?_
                      refine lv_sipush (v := (201 : Int32)) hx hb dL_acts_656 (by decide) ?_
                      refine lv_irem hx hb dL_acts_659 (by decide) ?_
                      refine lv_goto (tgt := 708) hx hb dL_acts_660 (by decide) ?_
                      exact J708 v11 v13 ((q1 / (6 : Int32)) - (q1 / (6 : Int32)) / (201 : Int32) * (201 : Int32)) ((7 : Int32) + v11) vg vu vh vc ve vt vx og w H locs hT hP hD hS ls (lv_sub hl [4, 5, 1, 0] rfl) hf
                  · replace hf := it hc14 hf
                    refine lv_bipush (v := (100 : Int32)) hx hb dL_acts_630 (by decide) ?_
                    refine lv_iload hx hb dL_acts_632 (lv_at hl 3 rfl) ?_
                    refine lv_bipush (v := (6 : Int32)) hx hb dL_acts_634 (by decide) ?_
                    refine lv_idiv hx hb dL_acts_636 (by decide) ?_
                    refine lv_sipush (v := (501 : Int32)) hx hb dL_acts_637 (by decide) ?_
                    refine lv_irem hx hb dL_acts_640 (by decide) ?_
                    refine lv_iadd hx hb dL_acts_641 ?_
                    refine lv_goto (tgt := 708) hx hb dL_acts_642 (by decide) ?_
                    exact J708 v11 v13 ((100 : Int32) + ((q1 / (6 : Int32)) - (q1 / (6 : Int32)) / (501 : Int32) * (501 : Int32))) ((7 : Int32) + v11) vg vu vh vc ve vt vx og w H locs hT hP hD hS ls (lv_sub hl [4, 5, 1, 0] rfl) hf
                · replace hf := it hc10 hf
                  refine lv_aload_n hx hb dL_acts_539 rfl (lv_at hl 3 rfl) ?_
                  refine lv_bipush (v := (14 : Int32)) hx hb dL_acts_540 (by decide) ?_
                  refine va_iald hx hb hK hP 0 0 rfl rfl (show ¬ ((14 : Int32) < 0 ∨ 15 ≤ (14 : Int32).toNatClampNeg) by decide) dL_acts_542 ?_
                  refine lv_if_ne (tgt := 565) hx hb dL_acts_543 (by decide) (fun hc18 => ?_) (fun hc18 => ?_)
                  · replace hf := ie hc18 hf
                    refine lv_aload_n hx hb dL_acts_565 rfl (lv_at hl 3 rfl) ?_
                    refine lv_aload_n hx hb dL_acts_566 rfl (lv_at hl 4 rfl) ?_
                    refine lv_iload hx hb dL_acts_567 (lv_at hl 1 rfl) ?_
                    refine lv_iconst (v := (2 : Int32)) hx hb dL_acts_569 (by decide) ?_
                    refine lv_irem hx hb dL_acts_570 (by decide) ?_
                    refine lv_aload hx hb dL_acts_571 (lv_at hl 8 rfl) ?_
                    refine lv_iconst (v := (1 : Int32)) hx hb dL_acts_573 (by decide) ?_
                    refine va_iald hx hb hK hP 5 0 rfl rfl (show ¬ ((1 : Int32) < 0 ∨ 36 ≤ (1 : Int32).toNatClampNeg) by decide) dL_acts_574 ?_
                    obtain ⟨q19, hq19, hf⟩ := ob hf
                    refine cl_VSL (X0 := [(bg, .inl (cI, 15, .inl vg)), (bu, .inl (cI, 8, .inl vu)), (bh, .inl (cI, 12, .inl vh)), (bc, .inl (cI, 64, .inl vc)), (be, .inl (cI, 64, .inl ve)), (bt, .inl (cI, 36, .inl vt)), (bx, .inl (cI, 48, .inl vx))]) (X1 := [(bg, .inl (cI, 15, .inl vg)), (bu, .inl (cI, 8, .inl q19)), (bh, .inl (cI, 12, .inl vh)), (bc, .inl (cI, 64, .inl vc)), (be, .inl (cI, 64, .inl ve)), (bt, .inl (cI, 36, .inl vt)), (bx, .inl (cI, 48, .inl vx))]) (As := [.ref bg, .ref bu, .int (q1 - q1 / (2 : Int32) * (2 : Int32)), .int (vt (1 : Int32).toNatClampNeg)]) (rest := []) hF hP hD hS (c_L_correct bg bu (q1 - q1 / (2 : Int32) * (2 : Int32)) (vt (1 : Int32).toNatClampNeg) vg vu q19 hq19) (va_cwS 4 hts gL_acts_L_correct rfl rfl rfl (by decide +kernel) ⟨(Nat.le_of_ble_eq_true rfl), (Nat.le_of_ble_eq_true rfl)⟩) [0, 1] rfl (by decide +kernel) rfl rfl hl.1 (Nat.le_of_ble_eq_true rfl) dL_acts_575 ⟨Nat.zero_le _, Nat.zero_le _⟩ (hA2 [bg, bu] rfl rfl) [2, 3, 4, 5, 6] rfl [(bh, .inl (cI, 12, .inl vh)), (bc, .inl (cI, 64, .inl vc)), (be, .inl (cI, 64, .inl ve)), (bt, .inl (cI, 36, .inl vt)), (bx, .inl (cI, 48, .inl vx))] rfl rfl (nX := 7) rfl rfl (by decide +kernel) (fun H locs hP hD hS => ?_)
                    refine lv_aload_n hx hb dL_acts_578 rfl (lv_at hl 2 rfl) ?_
                    refine lv_iload hx hb dL_acts_579 (lv_at hl 1 rfl) ?_
                    refine lv_iconst (v := (2 : Int32)) hx hb dL_acts_581 (by decide) ?_
                    refine lv_irem hx hb dL_acts_582 (by decide) ?_
                    obtain ⟨q20, hq20, hf⟩ := ob hf
                    refine cl_WO (As := [.int (q1 - q1 / (2 : Int32) * (2 : Int32))]) (rest := []) hF hP hD hS (oo_correct hT (q1 - q1 / (2 : Int32) * (2 : Int32)) q20 hq20) (cwV 1 hts gL_acts_X7_correct rfl rfl rfl (by decide +kernel) ⟨(Nat.le_of_ble_eq_true rfl), (Nat.le_of_ble_eq_true rfl)⟩) rfl rfl hl.1 (Nat.le_of_ble_eq_true rfl) dL_acts_583 ⟨Nat.zero_le _, Nat.zero_le _⟩ (fun w H locs hT hP hD hS => ?_)
                    refine lv_aload_n hx hb dL_acts_586 rfl (lv_at hl 4 rfl) ?_
                    refine lv_iconst (v := (4 : Int32)) hx hb dL_acts_587 (by decide) ?_
                    refine lv_iload hx hb dL_acts_588 (lv_at hl 1 rfl) ?_
                    refine lv_iconst (v := (2 : Int32)) hx hb dL_acts_590 (by decide) ?_
                    refine lv_irem hx hb dL_acts_591 (by decide) ?_
                    refine lv_imul hx hb dL_acts_592 ?_
                    obtain ⟨hg21, hf⟩ := gd_s hf
                    refine va_iald hx hb hK hP 1 0 rfl rfl hg21 dL_acts_593 ?_
                    refine lv_icmp_ne (tgt := 601) hx hb dL_acts_594 (by decide) (fun hc22 => ?_) (fun hc22 => ?_)
                    · replace hf := ie hc22 hf
                      refine lv_iconst (v := (0 : Int32)) hx hb dL_acts_601 (by decide) ?_
                      clear J102 J132 J133 J149 J163 J235 J299 J506 J708
                      obtain rfl := Option.some.inj hf
                      exact ret 602 ls _ w H locs dL_acts_602 (by decide) rfl hT hP hS
                    · replace hf := it hc22 hf
                      refine lv_iconst (v := (1 : Int32)) hx hb dL_acts_597 (by decide) ?_
                      refine lv_goto (tgt := 602) hx hb dL_acts_598 (by decide) ?_
                      clear J102 J132 J133 J149 J163 J235 J299 J506 J708
                      obtain rfl := Option.some.inj hf
                      exact ret 602 ls _ w H locs dL_acts_602 (by decide) rfl hT hP hS
                  · replace hf := it hc18 hf
                    refine lv_aload_n hx hb dL_acts_546 rfl (lv_at hl 2 rfl) ?_
                    refine lv_iload hx hb dL_acts_547 (lv_at hl 1 rfl) ?_
                    refine lv_iconst (v := (2 : Int32)) hx hb dL_acts_549 (by decide) ?_
                    refine lv_irem hx hb dL_acts_550 (by decide) ?_
                    obtain ⟨q23, hq23, hf⟩ := ob hf
                    refine cl_WO (As := [.int (q1 - q1 / (2 : Int32) * (2 : Int32))]) (rest := []) hF hP hD hS (oo_correct hT (q1 - q1 / (2 : Int32) * (2 : Int32)) q23 hq23) (cwV 1 hts gL_acts_X7_correct rfl rfl rfl (by decide +kernel) ⟨(Nat.le_of_ble_eq_true rfl), (Nat.le_of_ble_eq_true rfl)⟩) rfl rfl hl.1 (Nat.le_of_ble_eq_true rfl) dL_acts_551 ⟨Nat.zero_le _, Nat.zero_le _⟩ (fun w H locs hT hP hD hS => ?_)
                    refine lv_ldc hx hb hown k3_ dL_acts_554 ?_
                    refine lv_icmp_ne (tgt := 563) hx hb dL_acts_556 (by decide) (fun hc24 => ?_) (fun hc24 => ?_)
                    · replace hf := ie hc24 hf
                      refine lv_iconst (v := (0 : Int32)) hx hb dL_acts_563 (by decide) ?_
                      clear J102 J132 J133 J149 J163 J235 J299 J506 J708
                      obtain rfl := Option.some.inj hf
                      exact ret 564 ls _ w H locs dL_acts_564 (by decide) rfl hT hP hS
                    · replace hf := it hc24 hf
                      refine lv_iconst (v := (1 : Int32)) hx hb dL_acts_559 (by decide) ?_
                      refine lv_goto (tgt := 564) hx hb dL_acts_560 (by decide) ?_
                      clear J102 J132 J133 J149 J163 J235 J299 J506 J708
                      obtain rfl := Option.some.inj hf
                      exact ret 564 ls _ w H locs dL_acts_564 (by decide) rfl hT hP hS
              · replace hf := ie hc9 hf
                refine lv_iconst (v := (1 : Int32)) hx hb dL_acts_488 (by decide) ?_
                refine lv_iload hx hb dL_acts_489 (lv_at hl 1 rfl) ?_
                refine lv_iload hx hb dL_acts_491 (lv_at hl 1 rfl) ?_
                refine lv_iconst (v := (4 : Int32)) hx hb dL_acts_493 (by decide) ?_
                refine lv_irem hx hb dL_acts_494 (by decide) ?_
                refine lv_if_ne (tgt := 504) hx hb dL_acts_495 (by decide) (fun hc25 => ?_) (fun hc25 => ?_)
                · replace hf := ie hc25 hf
                  refine lv_bipush (v := (40 : Int32)) hx hb dL_acts_504 (by decide) ?_
                  exact J506 (40 : Int32) q1 (1 : Int32) vg vu vh vc ve vt vx og w H locs hT hP hD hS ls (lv_sub hl [2, 3, 4] rfl) hf
                · replace hf := it hc25 hf
                  refine lv_sipush (v := (999 : Int32)) hx hb dL_acts_498 (by decide) ?_
                  refine lv_goto (tgt := 506) hx hb dL_acts_501 (by decide) ?_
                  exact J506 (999 : Int32) q1 (1 : Int32) vg vu vh vc ve vt vx og w H locs hT hP hD hS ls (lv_sub hl [2, 3, 4] rfl) hf
            · replace hf := it hc8 hf
              refine lv_iload hx hb dL_acts_429 (lv_at hl 1 rfl) ?_
              refine lv_iconst (v := (2 : Int32)) hx hb dL_acts_431 (by decide) ?_
              refine lv_irem hx hb dL_acts_432 (by decide) ?_
              refine lv_topi (fun v26 ev26 => ?_)
              replace hf := lt_e ev26 hf
              refine lv_istore (lv' := [(11, .int v26), (10, .int q2), (9, .int q1), (0, .ref t0), (1, .ref bg), (2, .ref bu), (3, .ref bh), (4, .ref bc), (5, .ref be), (6, .ref bt), (7, .ref bx), (8, .int x8)]) hx hb dL_acts_433 hl (by decide) rfl (fun ls hl => ?_)
              refine lv_aload_n hx hb dL_acts_435 rfl (lv_at hl 5 rfl) ?_
              refine lv_iconst (v := (4 : Int32)) hx hb dL_acts_436 (by decide) ?_
              refine lv_iload hx hb dL_acts_437 (lv_at hl 0 rfl) ?_
              refine lv_imul hx hb dL_acts_439 ?_
              obtain ⟨hg27, hf⟩ := gd_s hf
              refine va_iald hx hb hK hP 1 0 rfl rfl hg27 dL_acts_440 ?_
              refine lv_topi (fun v28 ev28 => ?_)
              replace hf := lt_e ev28 hf
              refine lv_istore (lv' := [(12, .int v28), (11, .int v26), (10, .int q2), (9, .int q1), (0, .ref t0), (1, .ref bg), (2, .ref bu), (3, .ref bh), (4, .ref bc), (5, .ref be), (6, .ref bt), (7, .ref bx), (8, .int x8)]) hx hb dL_acts_441 hl (by decide) rfl (fun ls hl => ?_)
              refine lv_aload_n hx hb dL_acts_443 rfl (lv_at hl 6 rfl) ?_
              refine lv_iconst (v := (4 : Int32)) hx hb dL_acts_444 (by decide) ?_
              refine lv_iload hx hb dL_acts_445 (lv_at hl 1 rfl) ?_
              refine lv_imul hx hb dL_acts_447 ?_
              refine lv_iconst (v := (1 : Int32)) hx hb dL_acts_448 (by decide) ?_
              refine lv_iload hx hb dL_acts_449 (lv_at hl 3 rfl) ?_
              refine lv_iconst (v := (2 : Int32)) hx hb dL_acts_451 (by decide) ?_
              refine lv_idiv hx hb dL_acts_452 (by decide) ?_
              refine lv_bipush (v := (60 : Int32)) hx hb dL_acts_453 (by decide) ?_
              refine lv_irem hx hb dL_acts_455 (by decide) ?_
              refine lv_iadd hx hb dL_acts_456 ?_
              refine lv_topi (fun v29 ev29 => ?_)
              replace hf := lt_e ev29 hf
              obtain ⟨hg30, hf⟩ := gd_s hf
              refine x_iast hx hb hK hP hD hS 1 0 rfl rfl hg30 dL_acts_457 (fun Z31 H locs eZ31 hP hD hS => ?_)
              replace hf := lt_e eZ31 hf
              have hP : va_P D vwCl ([(bg, .inl (cI, 15, .inl vg)), (bu, .inl (cI, 8, .inl Z31)), (bh, .inl (cI, 12, .inl vh)), (bc, .inl (cI, 64, .inl vc)), (be, .inl (cI, 64, .inl ve)), (bt, .inl (cI, 36, .inl vt)), (bx, .inl (cI, 48, .inl vx))] ++ w) H := hP
              have hD : va_D AA ([(bg, .inl (cI, 15, .inl vg)), (bu, .inl (cI, 8, .inl Z31)), (bh, .inl (cI, 12, .inl vh)), (bc, .inl (cI, 64, .inl vc)), (be, .inl (cI, 64, .inl ve)), (bt, .inl (cI, 36, .inl vt)), (bx, .inl (cI, 48, .inl vx))] ++ w) := hD
              refine lv_aload_n hx hb dL_acts_458 rfl (lv_at hl 4 rfl) ?_
              refine lv_iload hx hb dL_acts_459 (lv_at hl 1 rfl) ?_
              refine lv_aload_n hx hb dL_acts_461 rfl (lv_at hl 6 rfl) ?_
              refine lv_iconst (v := (4 : Int32)) hx hb dL_acts_462 (by decide) ?_
              refine lv_iload hx hb dL_acts_463 (lv_at hl 1 rfl) ?_
              refine lv_imul hx hb dL_acts_465 ?_
              obtain ⟨hg32, hf⟩ := gd_s hf
              refine va_iald hx hb hK hP 1 0 rfl rfl hg32 dL_acts_466 ?_
              obtain ⟨q33, hq33, hf⟩ := ob hf
              refine cl_WO (As := [.int v26, .int (Z31 ((4 : Int32) * v26).toNatClampNeg)]) (rest := []) hF hP hD hS (oo_dial hT v26 (Z31 ((4 : Int32) * v26).toNatClampNeg) q33 hq33) (cwV 2 hts gL_acts_X7_dial rfl rfl rfl (by decide +kernel) ⟨(Nat.le_of_ble_eq_true rfl), (Nat.le_of_ble_eq_true rfl)⟩) rfl rfl hl.1 (Nat.le_of_ble_eq_true rfl) dL_acts_467 ⟨Nat.zero_le _, Nat.zero_le _⟩ (fun w H locs hT hP hD hS => ?_)
              refine lv_iload hx hb dL_acts_470 (lv_at hl 0 rfl) ?_
              refine lv_icmp_ne (tgt := 479) hx hb dL_acts_472 (by decide) (fun hc34 => ?_) (fun hc34 => ?_)
              · replace hf := ie hc34 hf
                refine lv_iconst (v := (0 : Int32)) hx hb dL_acts_479 (by decide) ?_
                clear J102 J132 J133 J149 J163 J235 J299 J506 J708
                obtain rfl := Option.some.inj hf
                exact ret 480 ls _ w H locs dL_acts_480 (by decide) rfl hT hP hS
              · replace hf := it hc34 hf
                refine lv_iconst (v := (1 : Int32)) hx hb dL_acts_475 (by decide) ?_
                refine lv_goto (tgt := 480) hx hb dL_acts_476 (by decide) ?_
                clear J102 J132 J133 J149 J163 J235 J299 J506 J708
                obtain rfl := Option.some.inj hf
                exact ret 480 ls _ w H locs dL_acts_480 (by decide) rfl hT hP hS
          · replace hf := it hc7 hf
            refine lv_aload_n hx hb dL_acts_414 rfl (lv_at hl 2 rfl) ?_
            refine lv_aload_n hx hb dL_acts_415 rfl (lv_at hl 3 rfl) ?_
            refine lv_aload hx hb dL_acts_416 (lv_at hl 6 rfl) ?_
            obtain ⟨q35, hq35, hf⟩ := ob hf
            refine cl_WSO (X0 := [(bg, .inl (cI, 15, .inl vg)), (bu, .inl (cI, 8, .inl vu)), (bh, .inl (cI, 12, .inl vh)), (bc, .inl (cI, 64, .inl vc)), (be, .inl (cI, 64, .inl ve)), (bt, .inl (cI, 36, .inl vt)), (bx, .inl (cI, 48, .inl vx))]) (X1 := [(bg, .inl (cI, 15, .inl q35.2.1)), (bu, .inl (cI, 8, .inl vu)), (bh, .inl (cI, 12, .inl vh)), (bc, .inl (cI, 64, .inl q35.2.2.1)), (be, .inl (cI, 64, .inl ve)), (bt, .inl (cI, 36, .inl vt)), (bx, .inl (cI, 48, .inl vx))]) (As := [.ref t0, .ref bg, .ref bc]) (rest := []) hF hP hD hS hST hT (c_L_purges bg bc t0 vg vc og hT q35 hq35) (va_cwS 3 hts gL_acts_L_purges rfl rfl rfl (by decide +kernel) ⟨(Nat.le_of_ble_eq_true rfl), (Nat.le_of_ble_eq_true rfl)⟩) [0, 3] rfl (by decide +kernel) rfl rfl hl.1 (Nat.le_of_ble_eq_true rfl) dL_acts_418 ⟨Nat.zero_le _, Nat.zero_le _⟩ (hA2 [bg, bc] rfl rfl) [1, 2, 4, 5, 6] rfl [(bu, .inl (cI, 8, .inl vu)), (bh, .inl (cI, 12, .inl vh)), (be, .inl (cI, 64, .inl ve)), (bt, .inl (cI, 36, .inl vt)), (bx, .inl (cI, 48, .inl vx))] rfl rfl (nX := 7) rfl rfl (by decide +kernel) (fun w H locs hT hP hD hS => ?_)
            obtain ⟨hg36, hf⟩ := gd_s hf
            clear J102 J132 J133 J149 J163 J235 J299 J506 J708
            obtain rfl := Option.some.inj hf
            exact ret 421 ls _ w H locs dL_acts_421 (zb_ok hg36) rfl hT hP hS
        · replace hf := ie hc6 hf
          refine lv_aload_n hx hb dL_acts_394 rfl (lv_at hl 2 rfl) ?_
          refine lv_aload_n hx hb dL_acts_395 rfl (lv_at hl 3 rfl) ?_
          refine lv_aload_n hx hb dL_acts_396 rfl (lv_at hl 4 rfl) ?_
          refine lv_aload hx hb dL_acts_397 (lv_at hl 7 rfl) ?_
          refine lv_aload hx hb dL_acts_399 (lv_at hl 8 rfl) ?_
          refine lv_aload hx hb dL_acts_401 (lv_at hl 9 rfl) ?_
          obtain ⟨q37, hq37, hf⟩ := ob hf
          refine cl_WSO (X0 := [(bg, .inl (cI, 15, .inl vg)), (bu, .inl (cI, 8, .inl vu)), (bh, .inl (cI, 12, .inl vh)), (bc, .inl (cI, 64, .inl vc)), (be, .inl (cI, 64, .inl ve)), (bt, .inl (cI, 36, .inl vt)), (bx, .inl (cI, 48, .inl vx))]) (X1 := [(bg, .inl (cI, 15, .inl q37.2.1)), (bu, .inl (cI, 8, .inl q37.2.2.1)), (bh, .inl (cI, 12, .inl vh)), (bc, .inl (cI, 64, .inl vc)), (be, .inl (cI, 64, .inl q37.2.2.2.1)), (bt, .inl (cI, 36, .inl q37.2.2.2.2.1)), (bx, .inl (cI, 48, .inl q37.2.2.2.2.2.1))]) (As := [.ref t0, .ref bg, .ref bu, .ref be, .ref bt, .ref bx]) (rest := []) hF hP hD hS hST hT (c_L_shoots bg bu be bt bx t0 vg vu ve vt vx og hT q37 hq37) (va_cwS 6 hts gL_acts_L_shoots rfl rfl rfl (by decide +kernel) ⟨(Nat.le_of_ble_eq_true rfl), (Nat.le_of_ble_eq_true rfl)⟩) [0, 1, 4, 5, 6] rfl (by decide +kernel) rfl rfl hl.1 (Nat.le_of_ble_eq_true rfl) dL_acts_403 ⟨Nat.zero_le _, Nat.zero_le _⟩ (hA2 [bg, bu, be, bt, bx] rfl rfl) [2, 3] rfl [(bh, .inl (cI, 12, .inl vh)), (bc, .inl (cI, 64, .inl vc))] rfl rfl (nX := 7) rfl rfl (by decide +kernel) (fun w H locs hT hP hD hS => ?_)
          obtain ⟨hg38, hf⟩ := gd_s hf
          clear J102 J132 J133 J149 J163 J235 J299 J506 J708
          obtain rfl := Option.some.inj hf
          exact ret 406 ls _ w H locs dL_acts_406 (zb_ok hg38) rfl hT hP hS
      · replace hf := ie hc5 hf
        refine lv_iload hx hb dL_acts_272 (lv_at hl 1 rfl) ?_
        refine lv_iconst (v := (2 : Int32)) hx hb dL_acts_274 (by decide) ?_
        refine lv_irem hx hb dL_acts_275 (by decide) ?_
        refine lv_topi (fun v39 ev39 => ?_)
        replace hf := lt_e ev39 hf
        refine lv_istore (lv' := [(11, .int v39), (10, .int q2), (9, .int q1), (0, .ref t0), (1, .ref bg), (2, .ref bu), (3, .ref bh), (4, .ref bc), (5, .ref be), (6, .ref bt), (7, .ref bx), (8, .int x8)]) hx hb dL_acts_276 hl (by decide) rfl (fun ls hl => ?_)
        refine lv_iconst (v := (1 : Int32)) hx hb dL_acts_278 (by decide) ?_
        refine lv_iload hx hb dL_acts_279 (lv_at hl 2 rfl) ?_
        refine lv_iconst (v := (2 : Int32)) hx hb dL_acts_281 (by decide) ?_
        refine lv_idiv hx hb dL_acts_282 (by decide) ?_
        refine lv_iload hx hb dL_acts_283 (lv_at hl 2 rfl) ?_
        refine lv_iconst (v := (4 : Int32)) hx hb dL_acts_285 (by decide) ?_
        refine lv_irem hx hb dL_acts_286 (by decide) ?_
        refine lv_if_ne (tgt := 296) hx hb dL_acts_287 (by decide) (fun hc40 => ?_) (fun hc40 => ?_)
        · replace hf := ie hc40 hf
          refine lv_sipush (v := (130 : Int32)) hx hb dL_acts_296 (by decide) ?_
          exact J299 v39 (130 : Int32) (q1 / (2 : Int32)) (1 : Int32) vg vu vh vc ve vt vx og w H locs hT hP hD hS ls (lv_sub hl [3, 4, 5, 6, 7, 8, 0] rfl) hf
        · replace hf := it hc40 hf
          refine lv_sipush (v := (400 : Int32)) hx hb dL_acts_290 (by decide) ?_
          refine lv_goto (tgt := 299) hx hb dL_acts_293 (by decide) ?_
          exact J299 v39 (400 : Int32) (q1 / (2 : Int32)) (1 : Int32) vg vu vh vc ve vt vx og w H locs hT hP hD hS ls (lv_sub hl [3, 4, 5, 6, 7, 8, 0] rfl) hf
    · replace hf := ie hc4 hf
      refine lv_iload hx hb dL_acts_75 (lv_at hl 1 rfl) ?_
      refine lv_iconst (v := (2 : Int32)) hx hb dL_acts_77 (by decide) ?_
      refine lv_irem hx hb dL_acts_78 (by decide) ?_
      refine lv_topi (fun v41 ev41 => ?_)
      replace hf := lt_e ev41 hf
      refine lv_istore (lv' := [(11, .int v41), (10, .int q2), (9, .int q1), (0, .ref t0), (1, .ref bg), (2, .ref bu), (3, .ref bh), (4, .ref bc), (5, .ref be), (6, .ref bt), (7, .ref bx), (8, .int x8)]) hx hb dL_acts_79 hl (by decide) rfl (fun ls hl => ?_)
      refine lv_iconst (v := (1 : Int32)) hx hb dL_acts_81 (by decide) ?_
      refine lv_iload hx hb dL_acts_82 (lv_at hl 2 rfl) ?_
      refine lv_iconst (v := (2 : Int32)) hx hb dL_acts_84 (by decide) ?_
      refine lv_idiv hx hb dL_acts_85 (by decide) ?_
      refine lv_iload hx hb dL_acts_86 (lv_at hl 2 rfl) ?_
      refine lv_iconst (v := (5 : Int32)) hx hb dL_acts_88 (by decide) ?_
      refine lv_irem hx hb dL_acts_89 (by decide) ?_
      refine lv_if_ne (tgt := 99) hx hb dL_acts_90 (by decide) (fun hc42 => ?_) (fun hc42 => ?_)
      · replace hf := ie hc42 hf
        refine lv_sipush (v := (180 : Int32)) hx hb dL_acts_99 (by decide) ?_
        exact J102 v41 (180 : Int32) (q1 / (2 : Int32)) (1 : Int32) vg vu vh vc ve vt vx og w H locs hT hP hD hS ls (lv_sub hl [3, 4, 6, 0] rfl) hf
      · replace hf := it hc42 hf
        refine lv_sipush (v := (999 : Int32)) hx hb dL_acts_93 (by decide) ?_
        refine lv_goto (tgt := 102) hx hb dL_acts_96 (by decide) ?_
        exact J102 v41 (999 : Int32) (q1 / (2 : Int32)) (1 : Int32) vg vu vh vc ve vt vx og w H locs hT hP hD hS ls (lv_sub hl [3, 4, 6, 0] rfl) hf
  · replace hf := ie hc3 hf
    refine lv_aload hx hb dL_acts_34 (lv_at hl 7 rfl) ?_
    refine lv_iconst (v := (0 : Int32)) hx hb dL_acts_36 (by decide) ?_
    refine va_iald hx hb hK hP 4 0 rfl rfl (show ¬ ((0 : Int32) < 0 ∨ 64 ≤ (0 : Int32).toNatClampNeg) by decide) dL_acts_37 ?_
    refine lv_aload hx hb dL_acts_38 (lv_at hl 6 rfl) ?_
    refine lv_iconst (v := (0 : Int32)) hx hb dL_acts_40 (by decide) ?_
    refine va_iald hx hb hK hP 3 0 rfl rfl (show ¬ ((0 : Int32) < 0 ∨ 64 ≤ (0 : Int32).toNatClampNeg) by decide) dL_acts_41 ?_
    refine lv_icmp_le (tgt := 60) hx hb dL_acts_42 (by decide) (fun hc43 => ?_) (fun hc43 => ?_)
    · replace hf := it hc43 hf
      refine lv_aload_n hx hb dL_acts_60 rfl (lv_at hl 2 rfl) ?_
      refine lv_aload_n hx hb dL_acts_61 rfl (lv_at hl 3 rfl) ?_
      refine lv_aload hx hb dL_acts_62 (lv_at hl 6 rfl) ?_
      obtain ⟨q44, hq44, hf⟩ := ob hf
      refine cl_WSO (X0 := [(bg, .inl (cI, 15, .inl vg)), (bu, .inl (cI, 8, .inl vu)), (bh, .inl (cI, 12, .inl vh)), (bc, .inl (cI, 64, .inl vc)), (be, .inl (cI, 64, .inl ve)), (bt, .inl (cI, 36, .inl vt)), (bx, .inl (cI, 48, .inl vx))]) (X1 := [(bg, .inl (cI, 15, .inl q44.2.1)), (bu, .inl (cI, 8, .inl vu)), (bh, .inl (cI, 12, .inl vh)), (bc, .inl (cI, 64, .inl q44.2.2.1)), (be, .inl (cI, 64, .inl ve)), (bt, .inl (cI, 36, .inl vt)), (bx, .inl (cI, 48, .inl vx))]) (As := [.ref t0, .ref bg, .ref bc]) (rest := []) hF hP hD hS hST hT (c_L_purges bg bc t0 vg vc og hT q44 hq44) (va_cwS 3 hts gL_acts_L_purges rfl rfl rfl (by decide +kernel) ⟨(Nat.le_of_ble_eq_true rfl), (Nat.le_of_ble_eq_true rfl)⟩) [0, 3] rfl (by decide +kernel) rfl rfl hl.1 (Nat.le_of_ble_eq_true rfl) dL_acts_64 ⟨Nat.zero_le _, Nat.zero_le _⟩ (hA2 [bg, bc] rfl rfl) [1, 2, 4, 5, 6] rfl [(bu, .inl (cI, 8, .inl vu)), (bh, .inl (cI, 12, .inl vh)), (be, .inl (cI, 64, .inl ve)), (bt, .inl (cI, 36, .inl vt)), (bx, .inl (cI, 48, .inl vx))] rfl rfl (nX := 7) rfl rfl (by decide +kernel) (fun w H locs hT hP hD hS => ?_)
      obtain ⟨hg45, hf⟩ := gd_s hf
      clear J102 J132 J133 J149 J163 J235 J299 J506 J708
      obtain rfl := Option.some.inj hf
      exact ret 67 ls _ w H locs dL_acts_67 (zb_ok hg45) rfl hT hP hS
    · replace hf := ie hc43 hf
      refine lv_aload_n hx hb dL_acts_45 rfl (lv_at hl 2 rfl) ?_
      refine lv_aload_n hx hb dL_acts_46 rfl (lv_at hl 3 rfl) ?_
      refine lv_aload_n hx hb dL_acts_47 rfl (lv_at hl 4 rfl) ?_
      refine lv_aload hx hb dL_acts_48 (lv_at hl 7 rfl) ?_
      refine lv_aload hx hb dL_acts_50 (lv_at hl 8 rfl) ?_
      refine lv_aload hx hb dL_acts_52 (lv_at hl 9 rfl) ?_
      obtain ⟨q46, hq46, hf⟩ := ob hf
      refine cl_WSO (X0 := [(bg, .inl (cI, 15, .inl vg)), (bu, .inl (cI, 8, .inl vu)), (bh, .inl (cI, 12, .inl vh)), (bc, .inl (cI, 64, .inl vc)), (be, .inl (cI, 64, .inl ve)), (bt, .inl (cI, 36, .inl vt)), (bx, .inl (cI, 48, .inl vx))]) (X1 := [(bg, .inl (cI, 15, .inl q46.2.1)), (bu, .inl (cI, 8, .inl q46.2.2.1)), (bh, .inl (cI, 12, .inl vh)), (bc, .inl (cI, 64, .inl vc)), (be, .inl (cI, 64, .inl q46.2.2.2.1)), (bt, .inl (cI, 36, .inl q46.2.2.2.2.1)), (bx, .inl (cI, 48, .inl q46.2.2.2.2.2.1))]) (As := [.ref t0, .ref bg, .ref bu, .ref be, .ref bt, .ref bx]) (rest := []) hF hP hD hS hST hT (c_L_shoots bg bu be bt bx t0 vg vu ve vt vx og hT q46 hq46) (va_cwS 6 hts gL_acts_L_shoots rfl rfl rfl (by decide +kernel) ⟨(Nat.le_of_ble_eq_true rfl), (Nat.le_of_ble_eq_true rfl)⟩) [0, 1, 4, 5, 6] rfl (by decide +kernel) rfl rfl hl.1 (Nat.le_of_ble_eq_true rfl) dL_acts_54 ⟨Nat.zero_le _, Nat.zero_le _⟩ (hA2 [bg, bu, be, bt, bx] rfl rfl) [2, 3] rfl [(bh, .inl (cI, 12, .inl vh)), (bc, .inl (cI, 64, .inl vc))] rfl rfl (nX := 7) rfl rfl (by decide +kernel) (fun w H locs hT hP hD hS => ?_)
      refine lv_goto (tgt := 67) hx hb dL_acts_57 (by decide) ?_
      obtain ⟨hg47, hf⟩ := gd_s hf
      clear J102 J132 J133 J149 J163 J235 J299 J506 J708
      obtain rfl := Option.some.inj hf
      exact ret 67 ls _ w H locs dL_acts_67 (zb_ok hg47) rfl hT hP hS
end
