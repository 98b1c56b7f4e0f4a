section
variable {l : Launch} {D : va_G} {cI cC : ClassId}

abbrev rmL_shoots : Room := { frames := 6, cells := 0, slots := 0, locals := 163 }
set_option maxHeartbeats 4000000 in
set_option maxRecDepth 100000 in
theorem c_L_shoots {w0 w : va_W} (bg : Nat) (bu : Nat) (be : Nat) (bt : Nat) (bx : Nat) (t0 : Nat) (vg : Nat → Int32) (vu : Nat → Int32) (ve : Nat → Int32) (vt : Nat → Int32) (vx : Nat → Int32) (og : Sp) (hT : OB cI cC t0 w0 og w) (R : Int32 × (Nat → Int32) × (Nat → Int32) × (Nat → Int32) × (Nat → Int32) × (Nat → Int32) × Sp) (hf : f_L_shoots vg vu ve vt vx og = some R) : WrO l yL_shoots wsL_shoots rmL_shoots D cI cC t0 w0 w [(bg, .inl (cI, 15, .inl vg)), (bu, .inl (cI, 8, .inl vu)), (be, .inl (cI, 64, .inl ve)), (bt, .inl (cI, 36, .inl vt)), (bx, .inl (cI, 48, .inl vx))] [(bg, .inl (cI, 15, .inl R.2.1)), (bu, .inl (cI, 8, .inl R.2.2.1)), (be, .inl (cI, 64, .inl R.2.2.2.1)), (bt, .inl (cI, 36, .inl R.2.2.2.2.1)), (bx, .inl (cI, 48, .inl R.2.2.2.2.2.1))] [.ref t0, .ref bg, .ref bu, .ref be, .ref bt, .ref bx] R.1 R.2.2.2.2.2.2 := by
  refine en_O (cc := cL_shoots) (n := 11) (by decide) rfl (Nat.le_of_ble_eq_true rfl) ?_
  intro p e s m args below meth c Q AA ls hx hb hml hown hts hK hN hP hD hS hST hl ret
  have hown : s.vm.findClass RL = some m.cls := hown
  have hF : FX p m c cL_shoots 11 s args wsL_shoots RL D cI cC := ⟨⟨hx, hb, hml, hown, hts⟩, hK, hN⟩
  have hl : lv_has ls 11 [(0, .ref t0), (1, .ref bg), (2, .ref bu), (3, .ref be), (4, .ref bt), (5, .ref bx)] := hl
  have k1_ := hts (.constant RL 15 (-1000002)) (List.mem_of_getElem? (i := 1) rfl)
  have J345 : ∀ (y6_345 : Int32) (vg_345 : Nat → Int32) (vu_345 : Nat → Int32) (ve_345 : Nat → Int32) (vt_345 : Nat → Int32) (vx_345 : Nat → Int32) (og_345 : Sp) (w : va_W) (H : Heap) (locs : List Loc), OB cI cC t0 w0 og_345 w → va_P D vwCl ([(bg, .inl (cI, 15, .inl vg_345)), (bu, .inl (cI, 8, .inl vu_345)), (be, .inl (cI, 64, .inl ve_345)), (bt, .inl (cI, 36, .inl vt_345)), (bx, .inl (cI, 48, .inl vx_345))] ++ w) H → va_D AA ([(bg, .inl (cI, 15, .inl vg_345)), (bu, .inl (cI, 8, .inl vu_345)), (be, .inl (cI, 64, .inl ve_345)), (bt, .inl (cI, 36, .inl vt_345)), (bx, .inl (cI, 48, .inl vx_345))] ++ w) → va_S AA s.heap H locs → ∀ ls : Array Slot, lv_has ls 11 [(0, .ref t0), (1, .ref bg), (2, .ref bu), (6, .int y6_345)] → f_L_shoots_J345 y6_345 vg_345 vu_345 ve_345 vt_345 vx_345 og_345 = some R → W p l e rmL_shoots s m args below meth c H locs 0 0 Q (F0 m 345 ls []) := by
    intro y6_345 vg_345 vu_345 ve_345 vt_345 vx_345 og_345 w H locs hT hP hD hS ls hl hf
    rw [f_L_shoots_J345] at hf
    refine lv_aload_n hx hb dL_shoots_345 rfl (lv_at hl 1 rfl) ?_
    refine lv_aload_n hx hb dL_shoots_346 rfl (lv_at hl 2 rfl) ?_
    refine lv_iload hx hb dL_shoots_347 (lv_at hl 3 rfl) ?_
    refine lv_bipush (v := (10 : Int32)) hx hb dL_shoots_349 (by decide) ?_
    refine lv_idiv hx hb dL_shoots_351 (by decide) ?_
    obtain ⟨q60, hq60, hf⟩ := ob hf
    refine cl_WSL (X0 := [(bg, .inl (cI, 15, .inl vg_345)), (bu, .inl (cI, 8, .inl vu_345)), (be, .inl (cI, 64, .inl ve_345)), (bt, .inl (cI, 36, .inl vt_345)), (bx, .inl (cI, 48, .inl vx_345))]) (X1 := [(bg, .inl (cI, 15, .inl q60.2.1)), (bu, .inl (cI, 8, .inl q60.2.2)), (be, .inl (cI, 64, .inl ve_345)), (bt, .inl (cI, 36, .inl vt_345)), (bx, .inl (cI, 48, .inl vx_345))]) (As := [.ref bg, .ref bu, .int (y6_345 / (10 : Int32))]) (rest := []) hF hP hD hS (c_L_pass bg bu (y6_345 / (10 : Int32)) vg_345 vu_345 q60 hq60) (va_cwS 3 hts gL_shoots_L_pass rfl rfl rfl (by decide +kernel) ⟨(Nat.le_of_ble_eq_true rfl), (Nat.le_of_ble_eq_true rfl)⟩) [0, 1] rfl (by decide +kernel) rfl rfl hl.1 (Nat.le_of_ble_eq_true rfl) dL_shoots_352 ⟨Nat.zero_le _, Nat.zero_le _⟩ (hA2 [bg, bu] rfl rfl) [2, 3, 4] rfl [(be, .inl (cI, 64, .inl ve_345)), (bt, .inl (cI, 36, .inl vt_345)), (bx, .inl (cI, 48, .inl vx_345))] rfl rfl (nX := 5) rfl rfl (by decide +kernel) (fun H locs hP hD hS => ?_)
    refine lv_pop hx hb dL_shoots_355 rfl ?_
    refine lv_aload_n hx hb dL_shoots_356 rfl (lv_at hl 0 rfl) ?_
    obtain ⟨q61, hq61, hf⟩ := ob hf
    refine cl_WO (As := []) (rest := []) hF hP hD hS (oo_shot hT  q61 hq61) (cwV 0 hts gL_shoots_X7_shot rfl rfl rfl (by decide +kernel) ⟨(Nat.le_of_ble_eq_true rfl), (Nat.le_of_ble_eq_true rfl)⟩) rfl rfl hl.1 (Nat.le_of_ble_eq_true rfl) dL_shoots_357 ⟨Nat.zero_le _, Nat.zero_le _⟩ (fun w H locs hT hP hD hS => ?_)
    refine lv_iload hx hb dL_shoots_360 (lv_at hl 3 rfl) ?_
    refine lv_icmp_ne (tgt := 369) hx hb dL_shoots_362 (by decide) (fun hc62 => ?_) (fun hc62 => ?_)
    · replace hf := ie hc62 hf
      refine lv_iconst (v := (0 : Int32)) hx hb dL_shoots_369 (by decide) ?_
      obtain rfl := Option.some.inj hf
      exact ret 370 ls _ w H locs dL_shoots_370 (by decide) rfl hT hP hS
    · replace hf := it hc62 hf
      refine lv_iconst (v := (1 : Int32)) hx hb dL_shoots_365 (by decide) ?_
      refine lv_goto (tgt := 370) hx hb dL_shoots_366 (by decide) ?_
      obtain rfl := Option.some.inj hf
      exact ret 370 ls _ w H locs dL_shoots_370 (by decide) rfl hT hP hS
  have J319 : ∀ (y6_319 : Int32) (y10_319 : Int32) (z0_319 : Int32) (z1_319 : Int32) (z2_319 : Int32) (vg_319 : Nat → Int32) (vu_319 : Nat → Int32) (ve_319 : Nat → Int32) (vt_319 : Nat → Int32) (vx_319 : Nat → Int32) (og_319 : Sp) (w : va_W) (H : Heap) (locs : List Loc), OB cI cC t0 w0 og_319 w → va_P D vwCl ([(bg, .inl (cI, 15, .inl vg_319)), (bu, .inl (cI, 8, .inl vu_319)), (be, .inl (cI, 64, .inl ve_319)), (bt, .inl (cI, 36, .inl vt_319)), (bx, .inl (cI, 48, .inl vx_319))] ++ w) H → va_D AA ([(bg, .inl (cI, 15, .inl vg_319)), (bu, .inl (cI, 8, .inl vu_319)), (be, .inl (cI, 64, .inl ve_319)), (bt, .inl (cI, 36, .inl vt_319)), (bx, .inl (cI, 48, .inl vx_319))] ++ w) → va_S AA s.heap H locs → ∀ ls : Array Slot, lv_has ls 11 [(0, .ref t0), (1, .ref bg), (2, .ref bu), (5, .ref bx), (6, .int y6_319), (10, .int y10_319)] → f_L_shoots_J319 y6_319 y10_319 z0_319 z1_319 z2_319 vg_319 vu_319 ve_319 vt_319 vx_319 og_319 = some R → W p l e rmL_shoots s m args below meth c H locs 0 0 Q (F0 m 319 ls [.int z0_319, .int z1_319, .int z2_319, .ref bg]) := by
    intro y6_319 y10_319 z0_319 z1_319 z2_319 vg_319 vu_319 ve_319 vt_319 vx_319 og_319 w H locs hT hP hD hS ls hl hf
    rw [f_L_shoots_J319] at hf
    refine lv_iadd hx hb dL_shoots_319 ?_
    refine lv_topi (fun v54 ev54 => ?_)
    replace hf := lt_e ev54 hf
    obtain ⟨hg55, hf⟩ := gd_s hf
    refine x_iast hx hb hK hP hD hS 0 0 rfl rfl hg55 dL_shoots_320 (fun Z56 H locs eZ56 hP hD hS => ?_)
    replace hf := lt_e eZ56 hf
    have hP : va_P D vwCl ([(bg, .inl (cI, 15, .inl Z56)), (bu, .inl (cI, 8, .inl vu_319)), (be, .inl (cI, 64, .inl ve_319)), (bt, .inl (cI, 36, .inl vt_319)), (bx, .inl (cI, 48, .inl vx_319))] ++ w) H := hP
    have hD : va_D AA ([(bg, .inl (cI, 15, .inl Z56)), (bu, .inl (cI, 8, .inl vu_319)), (be, .inl (cI, 64, .inl ve_319)), (bt, .inl (cI, 36, .inl vt_319)), (bx, .inl (cI, 48, .inl vx_319))] ++ w) := hD
    refine lv_iload hx hb dL_shoots_321 (lv_at hl 5 rfl) ?_
    refine lv_if_ne (tgt := 345) hx hb dL_shoots_323 (by decide) (fun hc57 => ?_) (fun hc57 => ?_)
    · replace hf := ie hc57 hf
      exact J345 y6_319 Z56 vu_319 ve_319 vt_319 vx_319 og_319 w H locs hT hP hD hS ls (lv_sub hl [0, 1, 2, 4] rfl) hf
    · replace hf := it hc57 hf
      refine lv_aload_n hx hb dL_shoots_326 rfl (lv_at hl 1 rfl) ?_
      refine lv_bipush (v := (12 : Int32)) hx hb dL_shoots_327 (by decide) ?_
      refine va_iald hx hb hK hP 0 0 rfl rfl (show ¬ ((12 : Int32) < 0 ∨ 15 ≤ (12 : Int32).toNatClampNeg) by decide) dL_shoots_329 ?_
      refine lv_iconst (v := (1 : Int32)) hx hb dL_shoots_330 (by decide) ?_
      refine lv_icmp_ne (tgt := 345) hx hb dL_shoots_331 (by decide) (fun hc58 => ?_) (fun hc58 => ?_)
      · replace hf := ie hc58 hf
        exact J345 y6_319 Z56 vu_319 ve_319 vt_319 vx_319 og_319 w H locs hT hP hD hS ls (lv_sub hl [0, 1, 2, 4] rfl) hf
      · replace hf := it hc58 hf
        refine lv_aload_n hx hb dL_shoots_334 rfl (lv_at hl 1 rfl) ?_
        refine lv_aload_n hx hb dL_shoots_335 rfl (lv_at hl 2 rfl) ?_
        refine lv_aload hx hb dL_shoots_336 (lv_at hl 3 rfl) ?_
        refine lv_iconst (v := (0 : Int32)) hx hb dL_shoots_338 (by decide) ?_
        refine va_iald hx hb hK hP 4 0 rfl rfl (show ¬ ((0 : Int32) < 0 ∨ 48 ≤ (0 : Int32).toNatClampNeg) by decide) dL_shoots_339 ?_
        refine lv_iload hx hb dL_shoots_340 (lv_at hl 4 rfl) ?_
        obtain ⟨q59, hq59, hf⟩ := ob hf
        refine cl_VSL (X0 := [(bg, .inl (cI, 15, .inl Z56)), (bu, .inl (cI, 8, .inl vu_319)), (be, .inl (cI, 64, .inl ve_319)), (bt, .inl (cI, 36, .inl vt_319)), (bx, .inl (cI, 48, .inl vx_319))]) (X1 := [(bg, .inl (cI, 15, .inl Z56)), (bu, .inl (cI, 8, .inl q59)), (be, .inl (cI, 64, .inl ve_319)), (bt, .inl (cI, 36, .inl vt_319)), (bx, .inl (cI, 48, .inl vx_319))]) (As := [.ref bg, .ref bu, .int (vx_319 (0 : Int32).toNatClampNeg), .int y6_319]) (rest := []) hF hP hD hS (c_L_correct bg bu (vx_319 (0 : Int32).toNatClampNeg) y6_319 Z56 vu_319 q59 hq59) (va_cwS 4 hts gL_shoots_L_correct rfl rfl rfl (by decide +kernel) ⟨(Nat.le_of_ble_eq_true rfl), (Nat.le_of_ble_eq_true rfl)⟩) [0, 1] rfl (by decide +kernel) rfl rfl hl.1 (Nat.le_of_ble_eq_true rfl) dL_shoots_342 ⟨Nat.zero_le _, Nat.zero_le _⟩ (hA2 [bg, bu] rfl rfl) [2, 3, 4] rfl [(be, .inl (cI, 64, .inl ve_319)), (bt, .inl (cI, 36, .inl vt_319)), (bx, .inl (cI, 48, .inl vx_319))] rfl rfl (nX := 5) rfl rfl (by decide +kernel) (fun H locs hP hD hS => ?_)
        exact J345 y6_319 Z56 q59 ve_319 vt_319 vx_319 og_319 w H locs hT hP hD hS ls (lv_sub hl [0, 1, 2, 4] rfl) hf
  have J302 : ∀ (y6_302 : Int32) (z0_302 : Int32) (vg_302 : Nat → Int32) (vu_302 : Nat → Int32) (ve_302 : Nat → Int32) (vt_302 : Nat → Int32) (vx_302 : Nat → Int32) (og_302 : Sp) (w : va_W) (H : Heap) (locs : List Loc), OB cI cC t0 w0 og_302 w → va_P D vwCl ([(bg, .inl (cI, 15, .inl vg_302)), (bu, .inl (cI, 8, .inl vu_302)), (be, .inl (cI, 64, .inl ve_302)), (bt, .inl (cI, 36, .inl vt_302)), (bx, .inl (cI, 48, .inl vx_302))] ++ w) H → va_D AA ([(bg, .inl (cI, 15, .inl vg_302)), (bu, .inl (cI, 8, .inl vu_302)), (be, .inl (cI, 64, .inl ve_302)), (bt, .inl (cI, 36, .inl vt_302)), (bx, .inl (cI, 48, .inl vx_302))] ++ w) → va_S AA s.heap H locs → ∀ ls : Array Slot, lv_has ls 11 [(0, .ref t0), (1, .ref bg), (2, .ref bu), (5, .ref bx), (6, .int y6_302)] → f_L_shoots_J302 y6_302 z0_302 vg_302 vu_302 ve_302 vt_302 vx_302 og_302 = some R → W p l e rmL_shoots s m args below meth c H locs 0 0 Q (F0 m 302 ls [.int z0_302]) := by
    intro y6_302 z0_302 vg_302 vu_302 ve_302 vt_302 vx_302 og_302 w H locs hT hP hD hS ls hl hf
    rw [f_L_shoots_J302] at hf
    refine lv_istore (lv' := [(10, .int z0_302), (0, .ref t0), (1, .ref bg), (2, .ref bu), (5, .ref bx), (6, .int y6_302)]) hx hb dL_shoots_302 hl (by decide) rfl (fun ls hl => ?_)
    refine lv_aload_n hx hb dL_shoots_304 rfl (lv_at hl 2 rfl) ?_
    refine lv_bipush (v := (6 : Int32)) hx hb dL_shoots_305 (by decide) ?_
    refine lv_dup2_11 hx hb dL_shoots_307 rfl rfl ?_
    refine va_iald hx hb hK hP 0 0 rfl rfl (show ¬ ((6 : Int32) < 0 ∨ 15 ≤ (6 : Int32).toNatClampNeg) by decide) dL_shoots_308 ?_
    refine lv_iload hx hb dL_shoots_309 (lv_at hl 0 rfl) ?_
    refine lv_if_eq (tgt := 318) hx hb dL_shoots_311 (by decide) (fun hc53 => ?_) (fun hc53 => ?_)
    · replace hf := it hc53 hf
      refine lv_iconst (v := (0 : Int32)) hx hb dL_shoots_318 (by decide) ?_
      exact J319 y6_302 z0_302 (0 : Int32) (vg_302 (6 : Int32).toNatClampNeg) (6 : Int32) vg_302 vu_302 ve_302 vt_302 vx_302 og_302 w H locs hT hP hD hS ls (lv_sub hl [1, 2, 3, 4, 5, 0] rfl) hf
    · replace hf := ie hc53 hf
      refine lv_iconst (v := (1 : Int32)) hx hb dL_shoots_314 (by decide) ?_
      refine lv_goto (tgt := 319) hx hb dL_shoots_315 (by decide) ?_
      exact J319 y6_302 z0_302 (1 : Int32) (vg_302 (6 : Int32).toNatClampNeg) (6 : Int32) vg_302 vu_302 ve_302 vt_302 vx_302 og_302 w H locs hT hP hD hS ls (lv_sub hl [1, 2, 3, 4, 5, 0] rfl) hf
  have J263 : ∀ (y6_263 : Int32) (y7_263 : Int32) (z0_263 : Int32) (z1_263 : Int32) (z2_263 : Int32) (vg_263 : Nat → Int32) (vu_263 : Nat → Int32) (ve_263 : Nat → Int32) (vt_263 : Nat → Int32) (vx_263 : Nat → Int32) (og_263 : Sp) (w : va_W) (H : Heap) (locs : List Loc), OB cI cC t0 w0 og_263 w → va_P D vwCl ([(bg, .inl (cI, 15, .inl vg_263)), (bu, .inl (cI, 8, .inl vu_263)), (be, .inl (cI, 64, .inl ve_263)), (bt, .inl (cI, 36, .inl vt_263)), (bx, .inl (cI, 48, .inl vx_263))] ++ w) H → va_D AA ([(bg, .inl (cI, 15, .inl vg_263)), (bu, .inl (cI, 8, .inl vu_263)), (be, .inl (cI, 64, .inl ve_263)), (bt, .inl (cI, 36, .inl vt_263)), (bx, .inl (cI, 48, .inl vx_263))] ++ w) → va_S AA s.heap H locs → ∀ ls : Array Slot, lv_has ls 11 [(0, .ref t0), (1, .ref bg), (2, .ref bu), (3, .ref be), (5, .ref bx), (6, .int y6_263), (7, .int y7_263)] → f_L_shoots_J263 y6_263 y7_263 z0_263 z1_263 z2_263 vg_263 vu_263 ve_263 vt_263 vx_263 og_263 = some R → W p l e rmL_shoots s m args below meth c H locs 0 0 Q (F0 m 263 ls [.int z0_263, .int z1_263, .int z2_263, .ref bg]) := by
    intro y6_263 y7_263 z0_263 z1_263 z2_263 vg_263 vu_263 ve_263 vt_263 vx_263 og_263 w H locs hT hP hD hS ls hl hf
    rw [f_L_shoots_J263] at hf
    refine lv_iadd hx hb dL_shoots_263 ?_
    refine lv_topi (fun v43 ev43 => ?_)
    replace hf := lt_e ev43 hf
    obtain ⟨hg44, hf⟩ := gd_s hf
    refine x_iast hx hb hK hP hD hS 0 0 rfl rfl hg44 dL_shoots_264 (fun Z45 H locs eZ45 hP hD hS => ?_)
    replace hf := lt_e eZ45 hf
    have hP : va_P D vwCl ([(bg, .inl (cI, 15, .inl Z45)), (bu, .inl (cI, 8, .inl vu_263)), (be, .inl (cI, 64, .inl ve_263)), (bt, .inl (cI, 36, .inl vt_263)), (bx, .inl (cI, 48, .inl vx_263))] ++ w) H := hP
    have hD : va_D AA ([(bg, .inl (cI, 15, .inl Z45)), (bu, .inl (cI, 8, .inl vu_263)), (be, .inl (cI, 64, .inl ve_263)), (bt, .inl (cI, 36, .inl vt_263)), (bx, .inl (cI, 48, .inl vx_263))] ++ w) := hD
    refine lv_aload_n hx hb dL_shoots_265 rfl (lv_at hl 1 rfl) ?_
    refine lv_iconst (v := (5 : Int32)) hx hb dL_shoots_266 (by decide) ?_
    refine lv_dup2_11 hx hb dL_shoots_267 rfl rfl ?_
    refine va_iald hx hb hK hP 0 0 rfl rfl (show ¬ ((5 : Int32) < 0 ∨ 15 ≤ (5 : Int32).toNatClampNeg) by decide) dL_shoots_268 ?_
    refine lv_iconst (v := (1 : Int32)) hx hb dL_shoots_269 (by decide) ?_
    refine lv_iadd hx hb dL_shoots_270 ?_
    refine lv_topi (fun v46 ev46 => ?_)
    replace hf := lt_e ev46 hf
    refine x_iast hx hb hK hP hD hS 0 0 rfl rfl (show ¬ ((5 : Int32) < 0 ∨ 15 ≤ (5 : Int32).toNatClampNeg) by decide) dL_shoots_271 (fun Z47 H locs eZ47 hP hD hS => ?_)
    replace hf := lt_e eZ47 hf
    have hP : va_P D vwCl ([(bg, .inl (cI, 15, .inl Z47)), (bu, .inl (cI, 8, .inl vu_263)), (be, .inl (cI, 64, .inl ve_263)), (bt, .inl (cI, 36, .inl vt_263)), (bx, .inl (cI, 48, .inl vx_263))] ++ w) H := hP
    have hD : va_D AA ([(bg, .inl (cI, 15, .inl Z47)), (bu, .inl (cI, 8, .inl vu_263)), (be, .inl (cI, 64, .inl ve_263)), (bt, .inl (cI, 36, .inl vt_263)), (bx, .inl (cI, 48, .inl vx_263))] ++ w) := hD
    refine lv_aload_n hx hb dL_shoots_272 rfl (lv_at hl 1 rfl) ?_
    refine lv_iconst (v := (3 : Int32)) hx hb dL_shoots_273 (by decide) ?_
    refine lv_dup2_11 hx hb dL_shoots_274 rfl rfl ?_
    refine va_iald hx hb hK hP 0 0 rfl rfl (show ¬ ((3 : Int32) < 0 ∨ 15 ≤ (3 : Int32).toNatClampNeg) by decide) dL_shoots_275 ?_
    refine lv_iload hx hb dL_shoots_276 (lv_at hl 6 rfl) ?_
    refine lv_iadd hx hb dL_shoots_278 ?_
    refine lv_topi (fun v48 ev48 => ?_)
    replace hf := lt_e ev48 hf
    refine x_iast hx hb hK hP hD hS 0 0 rfl rfl (show ¬ ((3 : Int32) < 0 ∨ 15 ≤ (3 : Int32).toNatClampNeg) by decide) dL_shoots_279 (fun Z49 H locs eZ49 hP hD hS => ?_)
    replace hf := lt_e eZ49 hf
    have hP : va_P D vwCl ([(bg, .inl (cI, 15, .inl Z49)), (bu, .inl (cI, 8, .inl vu_263)), (be, .inl (cI, 64, .inl ve_263)), (bt, .inl (cI, 36, .inl vt_263)), (bx, .inl (cI, 48, .inl vx_263))] ++ w) H := hP
    have hD : va_D AA ([(bg, .inl (cI, 15, .inl Z49)), (bu, .inl (cI, 8, .inl vu_263)), (be, .inl (cI, 64, .inl ve_263)), (bt, .inl (cI, 36, .inl vt_263)), (bx, .inl (cI, 48, .inl vx_263))] ++ w) := hD
    refine lv_aload_n hx hb dL_shoots_280 rfl (lv_at hl 3 rfl) ?_
    refine lv_iconst (v := (0 : Int32)) hx hb dL_shoots_281 (by decide) ?_
    refine lv_iconst (v := (0 : Int32)) hx hb dL_shoots_282 (by decide) ?_
    refine x_iast hx hb hK hP hD hS 2 0 rfl rfl (show ¬ ((0 : Int32) < 0 ∨ 64 ≤ (0 : Int32).toNatClampNeg) by decide) dL_shoots_283 (fun Z50 H locs eZ50 hP hD hS => ?_)
    replace hf := lt_e eZ50 hf
    have hP : va_P D vwCl ([(bg, .inl (cI, 15, .inl Z49)), (bu, .inl (cI, 8, .inl vu_263)), (be, .inl (cI, 64, .inl Z50)), (bt, .inl (cI, 36, .inl vt_263)), (bx, .inl (cI, 48, .inl vx_263))] ++ w) H := hP
    have hD : va_D AA ([(bg, .inl (cI, 15, .inl Z49)), (bu, .inl (cI, 8, .inl vu_263)), (be, .inl (cI, 64, .inl Z50)), (bt, .inl (cI, 36, .inl vt_263)), (bx, .inl (cI, 48, .inl vx_263))] ++ w) := hD
    refine lv_aload_n hx hb dL_shoots_284 rfl (lv_at hl 1 rfl) ?_
    refine lv_iload hx hb dL_shoots_285 (lv_at hl 5 rfl) ?_
    obtain ⟨q51, hq51, hf⟩ := ob hf
    refine cl_RSL (X0 := [(bg, .inl (cI, 15, .inl Z49)), (bu, .inl (cI, 8, .inl vu_263)), (be, .inl (cI, 64, .inl Z50)), (bt, .inl (cI, 36, .inl vt_263)), (bx, .inl (cI, 48, .inl vx_263))]) (As := [.ref bg, .int y6_263]) (rest := []) hF hP hD (c_L_away bg y6_263 Z49 q51 hq51) (va_cwS 2 hts gL_shoots_L_away rfl rfl rfl (by decide +kernel) ⟨(Nat.le_of_ble_eq_true rfl), (Nat.le_of_ble_eq_true rfl)⟩) [0] rfl (by decide +kernel) rfl rfl hl.1 (Nat.le_of_ble_eq_true rfl) dL_shoots_287 ⟨Nat.zero_le _, Nat.zero_le _⟩ ?_
    refine lv_aload_n hx hb dL_shoots_290 rfl (lv_at hl 1 rfl) ?_
    refine lv_bipush (v := (8 : Int32)) hx hb dL_shoots_291 (by decide) ?_
    refine va_iald hx hb hK hP 0 0 rfl rfl (show ¬ ((8 : Int32) < 0 ∨ 15 ≤ (8 : Int32).toNatClampNeg) by decide) dL_shoots_293 ?_
    refine lv_icmp_gt (tgt := 301) hx hb dL_shoots_294 (by decide) (fun hc52 => ?_) (fun hc52 => ?_)
    · replace hf := it hc52 hf
      refine lv_iconst (v := (0 : Int32)) hx hb dL_shoots_301 (by decide) ?_
      exact J302 y6_263 (0 : Int32) Z49 vu_263 Z50 vt_263 vx_263 og_263 w H locs hT hP hD hS ls (lv_sub hl [0, 1, 2, 4, 5] rfl) hf
    · replace hf := ie hc52 hf
      refine lv_iconst (v := (1 : Int32)) hx hb dL_shoots_297 (by decide) ?_
      refine lv_goto (tgt := 302) hx hb dL_shoots_298 (by decide) ?_
      exact J302 y6_263 (1 : Int32) Z49 vu_263 Z50 vt_263 vx_263 og_263 w H locs hT hP hD hS ls (lv_sub hl [0, 1, 2, 4, 5] rfl) hf
  have J229 : ∀ (y6_229 : Int32) (y7_229 : Int32) (z0_229 : Int32) (z1_229 : Int32) (vg_229 : Nat → Int32) (vu_229 : Nat → Int32) (ve_229 : Nat → Int32) (vt_229 : Nat → Int32) (vx_229 : Nat → Int32) (og_229 : Sp) (w : va_W) (H : Heap) (locs : List Loc), OB cI cC t0 w0 og_229 w → va_P D vwCl ([(bg, .inl (cI, 15, .inl vg_229)), (bu, .inl (cI, 8, .inl vu_229)), (be, .inl (cI, 64, .inl ve_229)), (bt, .inl (cI, 36, .inl vt_229)), (bx, .inl (cI, 48, .inl vx_229))] ++ w) H → va_D AA ([(bg, .inl (cI, 15, .inl vg_229)), (bu, .inl (cI, 8, .inl vu_229)), (be, .inl (cI, 64, .inl ve_229)), (bt, .inl (cI, 36, .inl vt_229)), (bx, .inl (cI, 48, .inl vx_229))] ++ w) → va_S AA s.heap H locs → ∀ ls : Array Slot, lv_has ls 11 [(0, .ref t0), (1, .ref bg), (2, .ref bu), (3, .ref be), (5, .ref bx), (6, .int y6_229), (7, .int y7_229)] → f_L_shoots_J229 y6_229 y7_229 z0_229 z1_229 vg_229 vu_229 ve_229 vt_229 vx_229 og_229 = some R → W p l e rmL_shoots s m args below meth c H locs 0 0 Q (F0 m 229 ls [.int z0_229, .int z1_229, .ref bx]) := by
    intro y6_229 y7_229 z0_229 z1_229 vg_229 vu_229 ve_229 vt_229 vx_229 og_229 w H locs hT hP hD hS ls hl hf
    rw [f_L_shoots_J229] at hf
    obtain ⟨hg36, hf⟩ := gd_s hf
    refine x_iast hx hb hK hP hD hS 4 0 rfl rfl hg36 dL_shoots_229 (fun Z37 H locs eZ37 hP hD hS => ?_)
    replace hf := lt_e eZ37 hf
    have hP : va_P D vwCl ([(bg, .inl (cI, 15, .inl vg_229)), (bu, .inl (cI, 8, .inl vu_229)), (be, .inl (cI, 64, .inl ve_229)), (bt, .inl (cI, 36, .inl vt_229)), (bx, .inl (cI, 48, .inl Z37))] ++ w) H := hP
    have hD : va_D AA ([(bg, .inl (cI, 15, .inl vg_229)), (bu, .inl (cI, 8, .inl vu_229)), (be, .inl (cI, 64, .inl ve_229)), (bt, .inl (cI, 36, .inl vt_229)), (bx, .inl (cI, 48, .inl Z37))] ++ w) := hD
    refine lv_aload hx hb dL_shoots_230 (lv_at hl 4 rfl) ?_
    refine lv_iconst (v := (2 : Int32)) hx hb dL_shoots_232 (by decide) ?_
    refine lv_aload_n hx hb dL_shoots_233 rfl (lv_at hl 1 rfl) ?_
    refine lv_iconst (v := (0 : Int32)) hx hb dL_shoots_234 (by decide) ?_
    refine va_iald hx hb hK hP 0 0 rfl rfl (show ¬ ((0 : Int32) < 0 ∨ 15 ≤ (0 : Int32).toNatClampNeg) by decide) dL_shoots_235 ?_
    refine lv_topi (fun v38 ev38 => ?_)
    replace hf := lt_e ev38 hf
    refine x_iast hx hb hK hP hD hS 4 0 rfl rfl (show ¬ ((2 : Int32) < 0 ∨ 48 ≤ (2 : Int32).toNatClampNeg) by decide) dL_shoots_236 (fun Z39 H locs eZ39 hP hD hS => ?_)
    replace hf := lt_e eZ39 hf
    have hP : va_P D vwCl ([(bg, .inl (cI, 15, .inl vg_229)), (bu, .inl (cI, 8, .inl vu_229)), (be, .inl (cI, 64, .inl ve_229)), (bt, .inl (cI, 36, .inl vt_229)), (bx, .inl (cI, 48, .inl Z39))] ++ w) H := hP
    have hD : va_D AA ([(bg, .inl (cI, 15, .inl vg_229)), (bu, .inl (cI, 8, .inl vu_229)), (be, .inl (cI, 64, .inl ve_229)), (bt, .inl (cI, 36, .inl vt_229)), (bx, .inl (cI, 48, .inl Z39))] ++ w) := hD
    refine lv_aload hx hb dL_shoots_237 (lv_at hl 4 rfl) ?_
    refine lv_iconst (v := (3 : Int32)) hx hb dL_shoots_239 (by decide) ?_
    refine lv_aload_n hx hb dL_shoots_240 rfl (lv_at hl 3 rfl) ?_
    refine lv_iconst (v := (0 : Int32)) hx hb dL_shoots_241 (by decide) ?_
    refine va_iald hx hb hK hP 2 0 rfl rfl (show ¬ ((0 : Int32) < 0 ∨ 64 ≤ (0 : Int32).toNatClampNeg) by decide) dL_shoots_242 ?_
    refine lv_topi (fun v40 ev40 => ?_)
    replace hf := lt_e ev40 hf
    refine x_iast hx hb hK hP hD hS 4 0 rfl rfl (show ¬ ((3 : Int32) < 0 ∨ 48 ≤ (3 : Int32).toNatClampNeg) by decide) dL_shoots_243 (fun Z41 H locs eZ41 hP hD hS => ?_)
    replace hf := lt_e eZ41 hf
    have hP : va_P D vwCl ([(bg, .inl (cI, 15, .inl vg_229)), (bu, .inl (cI, 8, .inl vu_229)), (be, .inl (cI, 64, .inl ve_229)), (bt, .inl (cI, 36, .inl vt_229)), (bx, .inl (cI, 48, .inl Z41))] ++ w) H := hP
    have hD : va_D AA ([(bg, .inl (cI, 15, .inl vg_229)), (bu, .inl (cI, 8, .inl vu_229)), (be, .inl (cI, 64, .inl ve_229)), (bt, .inl (cI, 36, .inl vt_229)), (bx, .inl (cI, 48, .inl Z41))] ++ w) := hD
    refine lv_aload_n hx hb dL_shoots_244 rfl (lv_at hl 1 rfl) ?_
    refine lv_bipush (v := (14 : Int32)) hx hb dL_shoots_245 (by decide) ?_
    refine lv_dup2_11 hx hb dL_shoots_247 rfl rfl ?_
    refine va_iald hx hb hK hP 0 0 rfl rfl (show ¬ ((14 : Int32) < 0 ∨ 15 ≤ (14 : Int32).toNatClampNeg) by decide) dL_shoots_248 ?_
    refine lv_aload_n hx hb dL_shoots_249 rfl (lv_at hl 1 rfl) ?_
    refine lv_bipush (v := (14 : Int32)) hx hb dL_shoots_250 (by decide) ?_
    refine va_iald hx hb hK hP 0 0 rfl rfl (show ¬ ((14 : Int32) < 0 ∨ 15 ≤ (14 : Int32).toNatClampNeg) by decide) dL_shoots_252 ?_
    refine lv_bipush (v := (12 : Int32)) hx hb dL_shoots_253 (by decide) ?_
    refine lv_icmp_ge (tgt := 262) hx hb dL_shoots_255 (by decide) (fun hc42 => ?_) (fun hc42 => ?_)
    · replace hf := it hc42 hf
      refine lv_iconst (v := (0 : Int32)) hx hb dL_shoots_262 (by decide) ?_
      exact J263 y6_229 y7_229 (0 : Int32) (vg_229 (14 : Int32).toNatClampNeg) (14 : Int32) vg_229 vu_229 ve_229 vt_229 Z41 og_229 w H locs hT hP hD hS ls (lv_sub hl [0, 1, 2, 3, 4, 5, 6] rfl) hf
    · replace hf := ie hc42 hf
      refine lv_iconst (v := (1 : Int32)) hx hb dL_shoots_258 (by decide) ?_
      refine lv_goto (tgt := 263) hx hb dL_shoots_259 (by decide) ?_
      exact J263 y6_229 y7_229 (1 : Int32) (vg_229 (14 : Int32).toNatClampNeg) (14 : Int32) vg_229 vu_229 ve_229 vt_229 Z41 og_229 w H locs hT hP hD hS ls (lv_sub hl [0, 1, 2, 3, 4, 5, 6] rfl) hf
  have J210 : ∀ (y6_210 : Int32) (y7_210 : Int32) (y9_210 : Int32) (z0_210 : Int32) (z1_210 : Int32) (vg_210 : Nat → Int32) (vu_210 : Nat → Int32) (ve_210 : Nat → Int32) (vt_210 : Nat → Int32) (vx_210 : Nat → Int32) (og_210 : Sp) (w : va_W) (H : Heap) (locs : List Loc), OB cI cC t0 w0 og_210 w → va_P D vwCl ([(bg, .inl (cI, 15, .inl vg_210)), (bu, .inl (cI, 8, .inl vu_210)), (be, .inl (cI, 64, .inl ve_210)), (bt, .inl (cI, 36, .inl vt_210)), (bx, .inl (cI, 48, .inl vx_210))] ++ w) H → va_D AA ([(bg, .inl (cI, 15, .inl vg_210)), (bu, .inl (cI, 8, .inl vu_210)), (be, .inl (cI, 64, .inl ve_210)), (bt, .inl (cI, 36, .inl vt_210)), (bx, .inl (cI, 48, .inl vx_210))] ++ w) → va_S AA s.heap H locs → ∀ ls : Array Slot, lv_has ls 11 [(0, .ref t0), (1, .ref bg), (2, .ref bu), (3, .ref be), (5, .ref bx), (6, .int y6_210), (7, .int y7_210), (9, .int y9_210)] → f_L_shoots_J210 y6_210 y7_210 y9_210 z0_210 z1_210 vg_210 vu_210 ve_210 vt_210 vx_210 og_210 = some R → W p l e rmL_shoots s m args below meth c H locs 0 0 Q (F0 m 210 ls [.int z0_210, .int z1_210, .ref bx]) := by
    intro y6_210 y7_210 y9_210 z0_210 z1_210 vg_210 vu_210 ve_210 vt_210 vx_210 og_210 w H locs hT hP hD hS ls hl hf
    rw [f_L_shoots_J210] at hf
    obtain ⟨hg33, hf⟩ := gd_s hf
    refine x_iast hx hb hK hP hD hS 4 0 rfl rfl hg33 dL_shoots_210 (fun Z34 H locs eZ34 hP hD hS => ?_)
    replace hf := lt_e eZ34 hf
    have hP : va_P D vwCl ([(bg, .inl (cI, 15, .inl vg_210)), (bu, .inl (cI, 8, .inl vu_210)), (be, .inl (cI, 64, .inl ve_210)), (bt, .inl (cI, 36, .inl vt_210)), (bx, .inl (cI, 48, .inl Z34))] ++ w) H := hP
    have hD : va_D AA ([(bg, .inl (cI, 15, .inl vg_210)), (bu, .inl (cI, 8, .inl vu_210)), (be, .inl (cI, 64, .inl ve_210)), (bt, .inl (cI, 36, .inl vt_210)), (bx, .inl (cI, 48, .inl Z34))] ++ w) := hD
    refine lv_aload hx hb dL_shoots_211 (lv_at hl 4 rfl) ?_
    refine lv_iconst (v := (1 : Int32)) hx hb dL_shoots_213 (by decide) ?_
    refine lv_iload hx hb dL_shoots_214 (lv_at hl 7 rfl) ?_
    refine lv_iload hx hb dL_shoots_216 (lv_at hl 6 rfl) ?_
    refine lv_iload hx hb dL_shoots_218 (lv_at hl 7 rfl) ?_
    refine lv_isub hx hb dL_shoots_220 ?_
    refine lv_icmp_lt (tgt := 228) hx hb dL_shoots_221 (by decide) (fun hc35 => ?_) (fun hc35 => ?_)
    · replace hf := it hc35 hf
      refine lv_iconst (v := (1 : Int32)) hx hb dL_shoots_228 (by decide) ?_
      exact J229 y6_210 y7_210 (1 : Int32) (1 : Int32) vg_210 vu_210 ve_210 vt_210 Z34 og_210 w H locs hT hP hD hS ls (lv_sub hl [0, 1, 2, 3, 4, 5, 6] rfl) hf
    · replace hf := ie hc35 hf
      refine lv_iconst (v := (0 : Int32)) hx hb dL_shoots_224 (by decide) ?_
      refine lv_goto (tgt := 229) hx hb dL_shoots_225 (by decide) ?_
      exact J229 y6_210 y7_210 (0 : Int32) (1 : Int32) vg_210 vu_210 ve_210 vt_210 Z34 og_210 w H locs hT hP hD hS ls (lv_sub hl [0, 1, 2, 3, 4, 5, 6] rfl) hf
  have L149 : ∀ n149 : Nat, ∀ (y6_149 : Int32) (y7_149 : Int32) (y8_149 : Int32) (y9_149 : Int32) (y10_149 : Int32) (vg_149 : Nat → Int32) (vu_149 : Nat → Int32) (ve_149 : Nat → Int32) (vt_149 : Nat → Int32) (vx_149 : Nat → Int32) (og_149 : Sp) (w : va_W) (H : Heap) (locs : List Loc), OB cI cC t0 w0 og_149 w → va_P D vwCl ([(bg, .inl (cI, 15, .inl vg_149)), (bu, .inl (cI, 8, .inl vu_149)), (be, .inl (cI, 64, .inl ve_149)), (bt, .inl (cI, 36, .inl vt_149)), (bx, .inl (cI, 48, .inl vx_149))] ++ w) H → va_D AA ([(bg, .inl (cI, 15, .inl vg_149)), (bu, .inl (cI, 8, .inl vu_149)), (be, .inl (cI, 64, .inl ve_149)), (bt, .inl (cI, 36, .inl vt_149)), (bx, .inl (cI, 48, .inl vx_149))] ++ w) → va_S AA s.heap H locs → ∀ ls : Array Slot, lv_has ls 11 [(0, .ref t0), (1, .ref bg), (2, .ref bu), (3, .ref be), (4, .ref bt), (5, .ref bx), (6, .int y6_149), (7, .int y7_149), (8, .int y8_149), (9, .int y9_149), (10, .int y10_149)] → f_L_shoots_L149 y6_149 y7_149 y8_149 y9_149 n149 y10_149 vg_149 vu_149 ve_149 vt_149 vx_149 og_149 = some R → W p l e rmL_shoots s m args below meth c H locs 0 0 Q (F0 m 149 ls []) := by
    intro n149
    induction n149 with
    | zero => intro y6_149 y7_149 y8_149 y9_149 y10_149 vg_149 vu_149 ve_149 vt_149 vx_149 og_149 w H locs hT hP hD hS ls hl hf; rw [f_L_shoots_L149] at hf; cases hf
    | succ n149 IH149 =>
      intro y6_149 y7_149 y8_149 y9_149 y10_149 vg_149 vu_149 ve_149 vt_149 vx_149 og_149 w H locs hT hP hD hS ls hl hf
      rw [f_L_shoots_L149] at hf
      refine lv_iload hx hb dL_shoots_149 (lv_at hl 10 rfl) ?_
      refine lv_iconst (v := (2 : Int32)) hx hb dL_shoots_151 (by decide) ?_
      refine lv_icmp_le (tgt := 173) hx hb dL_shoots_152 (by decide) (fun hc20 => ?_) (fun hc20 => ?_)
      · replace hf := it hc20 hf
        refine lv_aload hx hb dL_shoots_173 (lv_at hl 4 rfl) ?_
        refine lv_iconst (v := (0 : Int32)) hx hb dL_shoots_175 (by decide) ?_
        refine lv_aload_n hx hb dL_shoots_176 rfl (lv_at hl 1 rfl) ?_
        refine lv_iconst (v := (5 : Int32)) hx hb dL_shoots_177 (by decide) ?_
        refine va_iald hx hb hK hP 0 0 rfl rfl (show ¬ ((5 : Int32) < 0 ∨ 15 ≤ (5 : Int32).toNatClampNeg) by decide) dL_shoots_178 ?_
        refine lv_topi (fun v21 ev21 => ?_)
        replace hf := lt_e ev21 hf
        refine x_iast hx hb hK hP hD hS 3 0 rfl rfl (show ¬ ((0 : Int32) < 0 ∨ 36 ≤ (0 : Int32).toNatClampNeg) by decide) dL_shoots_179 (fun Z22 H locs eZ22 hP hD hS => ?_)
        replace hf := lt_e eZ22 hf
        have hP : va_P D vwCl ([(bg, .inl (cI, 15, .inl vg_149)), (bu, .inl (cI, 8, .inl vu_149)), (be, .inl (cI, 64, .inl ve_149)), (bt, .inl (cI, 36, .inl Z22)), (bx, .inl (cI, 48, .inl vx_149))] ++ w) H := hP
        have hD : va_D AA ([(bg, .inl (cI, 15, .inl vg_149)), (bu, .inl (cI, 8, .inl vu_149)), (be, .inl (cI, 64, .inl ve_149)), (bt, .inl (cI, 36, .inl Z22)), (bx, .inl (cI, 48, .inl vx_149))] ++ w) := hD
        refine lv_aload hx hb dL_shoots_180 (lv_at hl 4 rfl) ?_
        refine lv_iconst (v := (1 : Int32)) hx hb dL_shoots_182 (by decide) ?_
        refine lv_iload hx hb dL_shoots_183 (lv_at hl 6 rfl) ?_
        refine x_iast hx hb hK hP hD hS 3 0 rfl rfl (show ¬ ((1 : Int32) < 0 ∨ 36 ≤ (1 : Int32).toNatClampNeg) by decide) dL_shoots_185 (fun Z23 H locs eZ23 hP hD hS => ?_)
        replace hf := lt_e eZ23 hf
        have hP : va_P D vwCl ([(bg, .inl (cI, 15, .inl vg_149)), (bu, .inl (cI, 8, .inl vu_149)), (be, .inl (cI, 64, .inl ve_149)), (bt, .inl (cI, 36, .inl Z23)), (bx, .inl (cI, 48, .inl vx_149))] ++ w) H := hP
        have hD : va_D AA ([(bg, .inl (cI, 15, .inl vg_149)), (bu, .inl (cI, 8, .inl vu_149)), (be, .inl (cI, 64, .inl ve_149)), (bt, .inl (cI, 36, .inl Z23)), (bx, .inl (cI, 48, .inl vx_149))] ++ w) := hD
        refine lv_aload hx hb dL_shoots_186 (lv_at hl 4 rfl) ?_
        refine lv_iconst (v := (2 : Int32)) hx hb dL_shoots_188 (by decide) ?_
        refine lv_iload hx hb dL_shoots_189 (lv_at hl 7 rfl) ?_
        refine x_iast hx hb hK hP hD hS 3 0 rfl rfl (show ¬ ((2 : Int32) < 0 ∨ 36 ≤ (2 : Int32).toNatClampNeg) by decide) dL_shoots_191 (fun Z24 H locs eZ24 hP hD hS => ?_)
        replace hf := lt_e eZ24 hf
        have hP : va_P D vwCl ([(bg, .inl (cI, 15, .inl vg_149)), (bu, .inl (cI, 8, .inl vu_149)), (be, .inl (cI, 64, .inl ve_149)), (bt, .inl (cI, 36, .inl Z24)), (bx, .inl (cI, 48, .inl vx_149))] ++ w) H := hP
        have hD : va_D AA ([(bg, .inl (cI, 15, .inl vg_149)), (bu, .inl (cI, 8, .inl vu_149)), (be, .inl (cI, 64, .inl ve_149)), (bt, .inl (cI, 36, .inl Z24)), (bx, .inl (cI, 48, .inl vx_149))] ++ w) := hD
        refine lv_aload hx hb dL_shoots_192 (lv_at hl 5 rfl) ?_
        refine lv_iconst (v := (0 : Int32)) hx hb dL_shoots_194 (by decide) ?_
        refine lv_iload hx hb dL_shoots_195 (lv_at hl 8 rfl) ?_
        refine lv_iload hx hb dL_shoots_197 (lv_at hl 7 rfl) ?_
        refine lv_iload hx hb dL_shoots_199 (lv_at hl 8 rfl) ?_
        refine lv_isub hx hb dL_shoots_201 ?_
        refine lv_icmp_lt (tgt := 209) hx hb dL_shoots_202 (by decide) (fun hc25 => ?_) (fun hc25 => ?_)
        · replace hf := it hc25 hf
          refine lv_iconst (v := (1 : Int32)) hx hb dL_shoots_209 (by decide) ?_
          exact J210 y6_149 y7_149 y9_149 (1 : Int32) (0 : Int32) vg_149 vu_149 ve_149 Z24 vx_149 og_149 w H locs hT hP hD hS ls (lv_sub hl [0, 1, 2, 3, 5, 6, 7, 9] rfl) hf
        · replace hf := ie hc25 hf
          refine lv_iconst (v := (0 : Int32)) hx hb dL_shoots_205 (by decide) ?_
          refine lv_goto (tgt := 210) hx hb dL_shoots_206 (by decide) ?_
          exact J210 y6_149 y7_149 y9_149 (0 : Int32) (0 : Int32) vg_149 vu_149 ve_149 Z24 vx_149 og_149 w H locs hT hP hD hS ls (lv_sub hl [0, 1, 2, 3, 5, 6, 7, 9] rfl) hf
      · replace hf := ie hc20 hf
        refine lv_aload hx hb dL_shoots_155 (lv_at hl 4 rfl) ?_
        refine lv_iload hx hb dL_shoots_157 (lv_at hl 10 rfl) ?_
        refine lv_aload hx hb dL_shoots_159 (lv_at hl 4 rfl) ?_
        refine lv_iload hx hb dL_shoots_161 (lv_at hl 10 rfl) ?_
        refine lv_iconst (v := (3 : Int32)) hx hb dL_shoots_163 (by decide) ?_
        refine lv_isub hx hb dL_shoots_164 ?_
        obtain ⟨hg26, hf⟩ := gd_s hf
        refine va_iald hx hb hK hP 3 0 rfl rfl hg26 dL_shoots_165 ?_
        refine lv_topi (fun v27 ev27 => ?_)
        replace hf := lt_e ev27 hf
        obtain ⟨hg28, hf⟩ := gd_s hf
        refine x_iast hx hb hK hP hD hS 3 0 rfl rfl hg28 dL_shoots_166 (fun Z29 H locs eZ29 hP hD hS => ?_)
        replace hf := lt_e eZ29 hf
        have hP : va_P D vwCl ([(bg, .inl (cI, 15, .inl vg_149)), (bu, .inl (cI, 8, .inl vu_149)), (be, .inl (cI, 64, .inl ve_149)), (bt, .inl (cI, 36, .inl Z29)), (bx, .inl (cI, 48, .inl vx_149))] ++ w) H := hP
        have hD : va_D AA ([(bg, .inl (cI, 15, .inl vg_149)), (bu, .inl (cI, 8, .inl vu_149)), (be, .inl (cI, 64, .inl ve_149)), (bt, .inl (cI, 36, .inl Z29)), (bx, .inl (cI, 48, .inl vx_149))] ++ w) := hD
        obtain ⟨v30, ev30⟩ : ∃ z : Int32, z = y10_149 + (-1 : Int32) := ⟨_, rfl⟩
        replace hf := lt_e ev30 hf
        refine lv_iinc (v := v30) (lv' := [(10, .int v30), (0, .ref t0), (1, .ref bg), (2, .ref bu), (3, .ref be), (4, .ref bt), (5, .ref bx), (6, .int y6_149), (7, .int y7_149), (8, .int y8_149), (9, .int y9_149)]) hx hb dL_shoots_167 hl (k := 10) rfl (by rw [ev30]; rfl) (by decide) rfl (fun ls hl => ?_)
        refine lv_goto (tgt := 149) hx hb dL_shoots_170 (by decide) ?_
        exact IH149 y6_149 y7_149 y8_149 y9_149 v30 vg_149 vu_149 ve_149 Z29 vx_149 og_149 w H locs hT hP hD hS ls (lv_sub hl [1, 2, 3, 4, 5, 6, 7, 8, 9, 10, 0] rfl) hf
  have L121 : ∀ n121 : Nat, ∀ (y6_121 : Int32) (y7_121 : Int32) (y8_121 : Int32) (y9_121 : Int32) (y10_121 : Int32) (vg_121 : Nat → Int32) (vu_121 : Nat → Int32) (ve_121 : Nat → Int32) (vt_121 : Nat → Int32) (vx_121 : Nat → Int32) (og_121 : Sp) (w : va_W) (H : Heap) (locs : List Loc), OB cI cC t0 w0 og_121 w → va_P D vwCl ([(bg, .inl (cI, 15, .inl vg_121)), (bu, .inl (cI, 8, .inl vu_121)), (be, .inl (cI, 64, .inl ve_121)), (bt, .inl (cI, 36, .inl vt_121)), (bx, .inl (cI, 48, .inl vx_121))] ++ w) H → va_D AA ([(bg, .inl (cI, 15, .inl vg_121)), (bu, .inl (cI, 8, .inl vu_121)), (be, .inl (cI, 64, .inl ve_121)), (bt, .inl (cI, 36, .inl vt_121)), (bx, .inl (cI, 48, .inl vx_121))] ++ w) → va_S AA s.heap H locs → ∀ ls : Array Slot, lv_has ls 11 [(0, .ref t0), (1, .ref bg), (2, .ref bu), (3, .ref be), (4, .ref bt), (5, .ref bx), (6, .int y6_121), (7, .int y7_121), (8, .int y8_121), (9, .int y9_121), (10, .int y10_121)] → f_L_shoots_L121 y6_121 y7_121 y8_121 y9_121 n121 y10_121 vg_121 vu_121 ve_121 vt_121 vx_121 og_121 = some R → W p l e rmL_shoots s m args below meth c H locs 0 0 Q (F0 m 121 ls []) := by
    intro n121
    induction n121 with
    | zero => intro y6_121 y7_121 y8_121 y9_121 y10_121 vg_121 vu_121 ve_121 vt_121 vx_121 og_121 w H locs hT hP hD hS ls hl hf; rw [f_L_shoots_L121] at hf; cases hf
    | succ n121 IH121 =>
      intro y6_121 y7_121 y8_121 y9_121 y10_121 vg_121 vu_121 ve_121 vt_121 vx_121 og_121 w H locs hT hP hD hS ls hl hf
      rw [f_L_shoots_L121] at hf
      refine lv_iload hx hb dL_shoots_121 (lv_at hl 10 rfl) ?_
      refine lv_iconst (v := (3 : Int32)) hx hb dL_shoots_123 (by decide) ?_
      refine lv_icmp_le (tgt := 145) hx hb dL_shoots_124 (by decide) (fun hc10 => ?_) (fun hc10 => ?_)
      · replace hf := it hc10 hf
        refine lv_bipush (v := (35 : Int32)) hx hb dL_shoots_145 (by decide) ?_
        refine lv_istore (lv' := [(10, .int (35 : Int32)), (0, .ref t0), (1, .ref bg), (2, .ref bu), (3, .ref be), (4, .ref bt), (5, .ref bx), (6, .int y6_121), (7, .int y7_121), (8, .int y8_121), (9, .int y9_121)]) hx hb dL_shoots_147 hl (by decide) rfl (fun ls hl => ?_)
        exact L149 FU y6_121 y7_121 y8_121 y9_121 (35 : Int32) vg_121 vu_121 ve_121 vt_121 vx_121 og_121 w H locs hT hP hD hS ls (lv_sub hl [1, 2, 3, 4, 5, 6, 7, 8, 9, 10, 0] rfl) hf
      · replace hf := ie hc10 hf
        refine lv_aload hx hb dL_shoots_127 (lv_at hl 5 rfl) ?_
        refine lv_iload hx hb dL_shoots_129 (lv_at hl 10 rfl) ?_
        refine lv_aload hx hb dL_shoots_131 (lv_at hl 5 rfl) ?_
        refine lv_iload hx hb dL_shoots_133 (lv_at hl 10 rfl) ?_
        refine lv_iconst (v := (4 : Int32)) hx hb dL_shoots_135 (by decide) ?_
        refine lv_isub hx hb dL_shoots_136 ?_
        obtain ⟨hg11, hf⟩ := gd_s hf
        refine va_iald hx hb hK hP 4 0 rfl rfl hg11 dL_shoots_137 ?_
        refine lv_topi (fun v12 ev12 => ?_)
        replace hf := lt_e ev12 hf
        obtain ⟨hg13, hf⟩ := gd_s hf
        refine x_iast hx hb hK hP hD hS 4 0 rfl rfl hg13 dL_shoots_138 (fun Z14 H locs eZ14 hP hD hS => ?_)
        replace hf := lt_e eZ14 hf
        have hP : va_P D vwCl ([(bg, .inl (cI, 15, .inl vg_121)), (bu, .inl (cI, 8, .inl vu_121)), (be, .inl (cI, 64, .inl ve_121)), (bt, .inl (cI, 36, .inl vt_121)), (bx, .inl (cI, 48, .inl Z14))] ++ w) H := hP
        have hD : va_D AA ([(bg, .inl (cI, 15, .inl vg_121)), (bu, .inl (cI, 8, .inl vu_121)), (be, .inl (cI, 64, .inl ve_121)), (bt, .inl (cI, 36, .inl vt_121)), (bx, .inl (cI, 48, .inl Z14))] ++ w) := hD
        obtain ⟨v15, ev15⟩ : ∃ z : Int32, z = y10_121 + (-1 : Int32) := ⟨_, rfl⟩
        replace hf := lt_e ev15 hf
        refine lv_iinc (v := v15) (lv' := [(10, .int v15), (0, .ref t0), (1, .ref bg), (2, .ref bu), (3, .ref be), (4, .ref bt), (5, .ref bx), (6, .int y6_121), (7, .int y7_121), (8, .int y8_121), (9, .int y9_121)]) hx hb dL_shoots_139 hl (k := 10) rfl (by rw [ev15]; rfl) (by decide) rfl (fun ls hl => ?_)
        refine lv_goto (tgt := 121) hx hb dL_shoots_142 (by decide) ?_
        exact IH121 y6_121 y7_121 y8_121 y9_121 v15 vg_121 vu_121 ve_121 vt_121 Z14 og_121 w H locs hT hP hD hS ls (lv_sub hl [1, 2, 3, 4, 5, 6, 7, 8, 9, 10, 0] rfl) hf
  have L43 : ∀ n43 : Nat, ∀ (y6_43 : Int32) (y7_43 : Int32) (y8_43 : Int32) (y9_43 : Int32) (y10_43 : Int32) (vg_43 : Nat → Int32) (vu_43 : Nat → Int32) (ve_43 : Nat → Int32) (vt_43 : Nat → Int32) (vx_43 : Nat → Int32) (og_43 : Sp) (w : va_W) (H : Heap) (locs : List Loc), OB cI cC t0 w0 og_43 w → va_P D vwCl ([(bg, .inl (cI, 15, .inl vg_43)), (bu, .inl (cI, 8, .inl vu_43)), (be, .inl (cI, 64, .inl ve_43)), (bt, .inl (cI, 36, .inl vt_43)), (bx, .inl (cI, 48, .inl vx_43))] ++ w) H → va_D AA ([(bg, .inl (cI, 15, .inl vg_43)), (bu, .inl (cI, 8, .inl vu_43)), (be, .inl (cI, 64, .inl ve_43)), (bt, .inl (cI, 36, .inl vt_43)), (bx, .inl (cI, 48, .inl vx_43))] ++ w) → va_S AA s.heap H locs → ∀ ls : Array Slot, lv_has ls 11 [(0, .ref t0), (1, .ref bg), (2, .ref bu), (3, .ref be), (4, .ref bt), (5, .ref bx), (6, .int y6_43), (7, .int y7_43), (8, .int y8_43), (9, .int y9_43), (10, .int y10_43)] → f_L_shoots_L43 y6_43 y7_43 n43 y8_43 y9_43 y10_43 vg_43 vu_43 ve_43 vt_43 vx_43 og_43 = some R → W p l e rmL_shoots s m args below meth c H locs 0 0 Q (F0 m 43 ls []) := by
    intro n43
    induction n43 with
    | zero => intro y6_43 y7_43 y8_43 y9_43 y10_43 vg_43 vu_43 ve_43 vt_43 vx_43 og_43 w H locs hT hP hD hS ls hl hf; rw [f_L_shoots_L43] at hf; cases hf
    | succ n43 IH43 =>
      intro y6_43 y7_43 y8_43 y9_43 y10_43 vg_43 vu_43 ve_43 vt_43 vx_43 og_43 w H locs hT hP hD hS ls hl hf
      have J108 : ∀ (y8_108 : Int32) (y10_108 : Int32) (z0_108 : Int32) (z1_108 : Int32) (vg_108 : Nat → Int32) (vu_108 : Nat → Int32) (ve_108 : Nat → Int32) (vt_108 : Nat → Int32) (vx_108 : Nat → Int32) (og_108 : Sp) (w : va_W) (H : Heap) (locs : List Loc), OB cI cC t0 w0 og_108 w → va_P D vwCl ([(bg, .inl (cI, 15, .inl vg_108)), (bu, .inl (cI, 8, .inl vu_108)), (be, .inl (cI, 64, .inl ve_108)), (bt, .inl (cI, 36, .inl vt_108)), (bx, .inl (cI, 48, .inl vx_108))] ++ w) H → va_D AA ([(bg, .inl (cI, 15, .inl vg_108)), (bu, .inl (cI, 8, .inl vu_108)), (be, .inl (cI, 64, .inl ve_108)), (bt, .inl (cI, 36, .inl vt_108)), (bx, .inl (cI, 48, .inl vx_108))] ++ w) → va_S AA s.heap H locs → ∀ ls : Array Slot, lv_has ls 11 [(0, .ref t0), (1, .ref bg), (2, .ref bu), (3, .ref be), (4, .ref bt), (5, .ref bx), (6, .int y6_43), (7, .int y7_43), (8, .int y8_108), (10, .int y10_108)] → f_L_shoots_J108 (f_L_shoots_L43 y6_43 y7_43 n43) y6_43 y7_43 y8_108 y10_108 z0_108 z1_108 vg_108 vu_108 ve_108 vt_108 vx_108 og_108 = some R → W p l e rmL_shoots s m args below meth c H locs 0 0 Q (F0 m 108 ls [.int z0_108, .int z1_108]) := by
        intro y8_108 y10_108 z0_108 z1_108 vg_108 vu_108 ve_108 vt_108 vx_108 og_108 w H locs hT hP hD hS ls hl hf
        rw [f_L_shoots_J108] at hf
        refine lv_iadd hx hb dL_shoots_108 ?_
        refine lv_topi (fun v31 ev31 => ?_)
        replace hf := lt_e ev31 hf
        refine lv_istore (lv' := [(9, .int v31), (0, .ref t0), (1, .ref bg), (2, .ref bu), (3, .ref be), (4, .ref bt), (5, .ref bx), (6, .int y6_43), (7, .int y7_43), (8, .int y8_108), (10, .int y10_108)]) hx hb dL_shoots_109 hl (by decide) rfl (fun ls hl => ?_)
        obtain ⟨v32, ev32⟩ : ∃ z : Int32, z = y10_108 + (1 : Int32) := ⟨_, rfl⟩
        replace hf := lt_e ev32 hf
        refine lv_iinc (v := v32) (lv' := [(10, .int v32), (9, .int v31), (0, .ref t0), (1, .ref bg), (2, .ref bu), (3, .ref be), (4, .ref bt), (5, .ref bx), (6, .int y6_43), (7, .int y7_43), (8, .int y8_108)]) hx hb dL_shoots_111 hl (k := 10) rfl (by rw [ev32]; rfl) (by decide) rfl (fun ls hl => ?_)
        refine lv_goto (tgt := 43) hx hb dL_shoots_114 (by decide) ?_
        exact IH43 y6_43 y7_43 y8_108 v31 v32 vg_108 vu_108 ve_108 vt_108 vx_108 og_108 w H locs hT hP hD hS ls (lv_sub hl [2, 3, 4, 5, 6, 7, 8, 9, 10, 1, 0] rfl) hf
      have J78 : ∀ (y9_78 : Int32) (y10_78 : Int32) (z0_78 : Int32) (z1_78 : Int32) (vg_78 : Nat → Int32) (vu_78 : Nat → Int32) (ve_78 : Nat → Int32) (vt_78 : Nat → Int32) (vx_78 : Nat → Int32) (og_78 : Sp) (w : va_W) (H : Heap) (locs : List Loc), OB cI cC t0 w0 og_78 w → va_P D vwCl ([(bg, .inl (cI, 15, .inl vg_78)), (bu, .inl (cI, 8, .inl vu_78)), (be, .inl (cI, 64, .inl ve_78)), (bt, .inl (cI, 36, .inl vt_78)), (bx, .inl (cI, 48, .inl vx_78))] ++ w) H → va_D AA ([(bg, .inl (cI, 15, .inl vg_78)), (bu, .inl (cI, 8, .inl vu_78)), (be, .inl (cI, 64, .inl ve_78)), (bt, .inl (cI, 36, .inl vt_78)), (bx, .inl (cI, 48, .inl vx_78))] ++ w) → va_S AA s.heap H locs → ∀ ls : Array Slot, lv_has ls 11 [(0, .ref t0), (1, .ref bg), (2, .ref bu), (3, .ref be), (4, .ref bt), (5, .ref bx), (6, .int y6_43), (7, .int y7_43), (9, .int y9_78), (10, .int y10_78)] → f_L_shoots_J78 (f_L_shoots_L43 y6_43 y7_43 n43) y6_43 y7_43 y9_78 y10_78 z0_78 z1_78 vg_78 vu_78 ve_78 vt_78 vx_78 og_78 = some R → W p l e rmL_shoots s m args below meth c H locs 0 0 Q (F0 m 78 ls [.int z0_78, .int z1_78]) := by
        intro y9_78 y10_78 z0_78 z1_78 vg_78 vu_78 ve_78 vt_78 vx_78 og_78 w H locs hT hP hD hS ls hl hf
        rw [f_L_shoots_J78] at hf
        refine lv_iadd hx hb dL_shoots_78 ?_
        refine lv_topi (fun v16 ev16 => ?_)
        replace hf := lt_e ev16 hf
        refine lv_istore (lv' := [(8, .int v16), (0, .ref t0), (1, .ref bg), (2, .ref bu), (3, .ref be), (4, .ref bt), (5, .ref bx), (6, .int y6_43), (7, .int y7_43), (9, .int y9_78), (10, .int y10_78)]) hx hb dL_shoots_79 hl (by decide) rfl (fun ls hl => ?_)
        refine lv_iload hx hb dL_shoots_81 (lv_at hl 9 rfl) ?_
        refine lv_aload_n hx hb dL_shoots_83 rfl (lv_at hl 4 rfl) ?_
        refine lv_iload hx hb dL_shoots_84 (lv_at hl 10 rfl) ?_
        obtain ⟨hg17, hf⟩ := gd_s hf
        refine va_iald hx hb hK hP 2 0 rfl rfl hg17 dL_shoots_86 ?_
        refine lv_sipush (v := (1000 : Int32)) hx hb dL_shoots_87 (by decide) ?_
        refine lv_idiv hx hb dL_shoots_90 (by decide) ?_
        refine lv_iconst (v := (2 : Int32)) hx hb dL_shoots_91 (by decide) ?_
        refine lv_irem hx hb dL_shoots_92 (by decide) ?_
        refine lv_if_ne (tgt := 107) hx hb dL_shoots_93 (by decide) (fun hc18 => ?_) (fun hc18 => ?_)
        · replace hf := ie hc18 hf
          refine lv_iconst (v := (0 : Int32)) hx hb dL_shoots_107 (by decide) ?_
          exact J108 v16 y10_78 (0 : Int32) y9_78 vg_78 vu_78 ve_78 vt_78 vx_78 og_78 w H locs hT hP hD hS ls (lv_sub hl [1, 2, 3, 4, 5, 6, 7, 8, 0, 10] rfl) hf
        · replace hf := it hc18 hf
          refine lv_aload_n hx hb dL_shoots_96 rfl (lv_at hl 4 rfl) ?_
          refine lv_iload hx hb dL_shoots_97 (lv_at hl 10 rfl) ?_
          obtain ⟨hg19, hf⟩ := gd_s hf
          refine va_iald hx hb hK hP 2 0 rfl rfl hg19 dL_shoots_99 ?_
          refine lv_sipush (v := (1000 : Int32)) hx hb dL_shoots_100 (by decide) ?_
          refine lv_irem hx hb dL_shoots_103 (by decide) ?_
          refine lv_goto (tgt := 108) hx hb dL_shoots_104 (by decide) ?_
          exact J108 v16 y10_78 ((ve_78 y10_78.toNatClampNeg) - (ve_78 y10_78.toNatClampNeg) / (1000 : Int32) * (1000 : Int32)) y9_78 vg_78 vu_78 ve_78 vt_78 vx_78 og_78 w H locs hT hP hD hS ls (lv_sub hl [1, 2, 3, 4, 5, 6, 7, 8, 0, 10] rfl) hf
      rw [f_L_shoots_L43] at hf
      refine lv_iload hx hb dL_shoots_43 (lv_at hl 10 rfl) ?_
      refine lv_aload_n hx hb dL_shoots_45 rfl (lv_at hl 3 rfl) ?_
      refine lv_iconst (v := (0 : Int32)) hx hb dL_shoots_46 (by decide) ?_
      refine va_iald hx hb hK hP 2 0 rfl rfl (show ¬ ((0 : Int32) < 0 ∨ 64 ≤ (0 : Int32).toNatClampNeg) by decide) dL_shoots_47 ?_
      refine lv_icmp_gt (tgt := 117) hx hb dL_shoots_48 (by decide) (fun hc6 => ?_) (fun hc6 => ?_)
      · replace hf := it hc6 hf
        refine lv_bipush (v := (47 : Int32)) hx hb dL_shoots_117 (by decide) ?_
        refine lv_istore (lv' := [(10, .int (47 : Int32)), (0, .ref t0), (1, .ref bg), (2, .ref bu), (3, .ref be), (4, .ref bt), (5, .ref bx), (6, .int y6_43), (7, .int y7_43), (8, .int y8_43), (9, .int y9_43)]) hx hb dL_shoots_119 hl (by decide) rfl (fun ls hl => ?_)
        exact L121 FU y6_43 y7_43 y8_43 y9_43 (47 : Int32) vg_43 vu_43 ve_43 vt_43 vx_43 og_43 w H locs hT hP hD hS ls (lv_sub hl [1, 2, 3, 4, 5, 6, 7, 8, 9, 10, 0] rfl) hf
      · replace hf := ie hc6 hf
        refine lv_iload hx hb dL_shoots_51 (lv_at hl 8 rfl) ?_
        refine lv_aload_n hx hb dL_shoots_53 rfl (lv_at hl 3 rfl) ?_
        refine lv_iload hx hb dL_shoots_54 (lv_at hl 10 rfl) ?_
        obtain ⟨hg7, hf⟩ := gd_s hf
        refine va_iald hx hb hK hP 2 0 rfl rfl hg7 dL_shoots_56 ?_
        refine lv_sipush (v := (2000 : Int32)) hx hb dL_shoots_57 (by decide) ?_
        refine lv_idiv hx hb dL_shoots_60 (by decide) ?_
        refine lv_iconst (v := (2 : Int32)) hx hb dL_shoots_61 (by decide) ?_
        refine lv_irem hx hb dL_shoots_62 (by decide) ?_
        refine lv_if_ne (tgt := 77) hx hb dL_shoots_63 (by decide) (fun hc8 => ?_) (fun hc8 => ?_)
        · replace hf := ie hc8 hf
          refine lv_iconst (v := (0 : Int32)) hx hb dL_shoots_77 (by decide) ?_
          exact J78 y9_43 y10_43 (0 : Int32) y8_43 vg_43 vu_43 ve_43 vt_43 vx_43 og_43 w H locs hT hP hD hS ls (lv_sub hl [0, 1, 2, 3, 4, 5, 6, 7, 9, 10] rfl) hf
        · replace hf := it hc8 hf
          refine lv_aload_n hx hb dL_shoots_66 rfl (lv_at hl 3 rfl) ?_
          refine lv_iload hx hb dL_shoots_67 (lv_at hl 10 rfl) ?_
          obtain ⟨hg9, hf⟩ := gd_s hf
          refine va_iald hx hb hK hP 2 0 rfl rfl hg9 dL_shoots_69 ?_
          refine lv_sipush (v := (1000 : Int32)) hx hb dL_shoots_70 (by decide) ?_
          refine lv_irem hx hb dL_shoots_73 (by decide) ?_
          refine lv_goto (tgt := 78) hx hb dL_shoots_74 (by decide) ?_
          exact J78 y9_43 y10_43 ((ve_43 y10_43.toNatClampNeg) - (ve_43 y10_43.toNatClampNeg) / (1000 : Int32) * (1000 : Int32)) y8_43 vg_43 vu_43 ve_43 vt_43 vx_43 og_43 w H locs hT hP hD hS ls (lv_sub hl [0, 1, 2, 3, 4, 5, 6, 7, 9, 10] rfl) hf
  rw [f_L_shoots] at hf
  obtain ⟨H, hH⟩ : ∃ z : Heap, z = s.heap := ⟨_, rfl⟩
  obtain ⟨locs, hL⟩ : ∃ z : List Loc, z = [] := ⟨_, rfl⟩
  replace hP := hH ▸ hP
  replace hS : va_S AA s.heap H locs := by rw [hH, hL]; exact hS
  suffices hgoal : W p l e rmL_shoots s m args below meth c H locs 0 0 Q (F0 m 0 ls []) by rw [hH, hL] at hgoal; exact hgoal
  clear hH hL
  refine lv_aload_n hx hb dL_shoots_0 rfl (lv_at hl 3 rfl) ?_
  refine lv_iconst (v := (0 : Int32)) hx hb dL_shoots_1 (by decide) ?_
  refine va_iald hx hb hK hP 2 0 rfl rfl (show ¬ ((0 : Int32) < 0 ∨ 64 ≤ (0 : Int32).toNatClampNeg) by decide) dL_shoots_2 ?_
  refine lv_if_ne (tgt := 21) hx hb dL_shoots_3 (by decide) (fun hc1 => ?_) (fun hc1 => ?_)
  · replace hf := ie hc1 hf
    refine lv_aload_n hx hb dL_shoots_21 rfl (lv_at hl 1 rfl) ?_
    refine lv_aload_n hx hb dL_shoots_22 rfl (lv_at hl 3 rfl) ?_
    obtain ⟨q2, hq2, hf⟩ := ob hf
    refine cl_RSL (X0 := [(bg, .inl (cI, 15, .inl vg)), (bu, .inl (cI, 8, .inl vu)), (be, .inl (cI, 64, .inl ve)), (bt, .inl (cI, 36, .inl vt)), (bx, .inl (cI, 48, .inl vx))]) (As := [.ref bg, .ref be]) (rest := []) hF hP hD (c_L_brew bg be vg ve q2 hq2) (va_cwS 2 hts gL_shoots_L_brew rfl rfl rfl (by decide +kernel) ⟨(Nat.le_of_ble_eq_true rfl), (Nat.le_of_ble_eq_true rfl)⟩) [0, 2] rfl (by decide +kernel) rfl rfl hl.1 (Nat.le_of_ble_eq_true rfl) dL_shoots_23 ⟨Nat.zero_le _, Nat.zero_le _⟩ ?_
    refine lv_istore (lv' := [(6, .int q2), (0, .ref t0), (1, .ref bg), (2, .ref bu), (3, .ref be), (4, .ref bt), (5, .ref bx)]) hx hb dL_shoots_26 hl (by decide) rfl (fun ls hl => ?_)
    refine lv_aload_n hx hb dL_shoots_28 rfl (lv_at hl 4 rfl) ?_
    obtain ⟨q3, hq3, hf⟩ := ob hf
    refine cl_RSL (X0 := [(bg, .inl (cI, 15, .inl vg)), (bu, .inl (cI, 8, .inl vu)), (be, .inl (cI, 64, .inl ve)), (bt, .inl (cI, 36, .inl vt)), (bx, .inl (cI, 48, .inl vx))]) (As := [.ref be]) (rest := []) hF hP hD (c_L_amounts be ve q3 hq3) (va_cwS 1 hts gL_shoots_L_amounts rfl rfl rfl (by decide +kernel) ⟨(Nat.le_of_ble_eq_true rfl), (Nat.le_of_ble_eq_true rfl)⟩) [2] rfl (by decide +kernel) rfl rfl hl.1 (Nat.le_of_ble_eq_true rfl) dL_shoots_29 ⟨Nat.zero_le _, Nat.zero_le _⟩ ?_
    refine lv_istore (lv' := [(7, .int q3), (6, .int q2), (0, .ref t0), (1, .ref bg), (2, .ref bu), (3, .ref be), (4, .ref bt), (5, .ref bx)]) hx hb dL_shoots_32 hl (by decide) rfl (fun ls hl => ?_)
    refine lv_iconst (v := (0 : Int32)) hx hb dL_shoots_34 (by decide) ?_
    refine lv_istore (lv' := [(8, .int (0 : Int32)), (7, .int q3), (6, .int q2), (0, .ref t0), (1, .ref bg), (2, .ref bu), (3, .ref be), (4, .ref bt), (5, .ref bx)]) hx hb dL_shoots_35 hl (by decide) rfl (fun ls hl => ?_)
    refine lv_iconst (v := (0 : Int32)) hx hb dL_shoots_37 (by decide) ?_
    refine lv_istore (lv' := [(9, .int (0 : Int32)), (8, .int (0 : Int32)), (7, .int q3), (6, .int q2), (0, .ref t0), (1, .ref bg), (2, .ref bu), (3, .ref be), (4, .ref bt), (5, .ref bx)]) hx hb dL_shoots_38 hl (by decide) rfl (fun ls hl => ?_)
    refine lv_iconst (v := (1 : Int32)) hx hb dL_shoots_40 (by decide) ?_
    refine lv_istore (lv' := [(10, .int (1 : Int32)), (9, .int (0 : Int32)), (8, .int (0 : Int32)), (7, .int q3), (6, .int q2), (0, .ref t0), (1, .ref bg), (2, .ref bu), (3, .ref be), (4, .ref bt), (5, .ref bx)]) hx hb dL_shoots_41 hl (by decide) rfl (fun ls hl => ?_)
    exact L43 FU q2 q3 (0 : Int32) (0 : Int32) (1 : Int32) vg vu ve vt vx og w H locs hT hP hD hS ls (lv_sub hl [5, 6, 7, 8, 9, 10, 4, 3, 2, 1, 0] rfl) hf
  · replace hf := it hc1 hf
    refine lv_aload_n hx hb dL_shoots_6 rfl (lv_at hl 0 rfl) ?_
    obtain ⟨q4, hq4, hf⟩ := ob hf
    refine cl_WO (As := []) (rest := []) hF hP hD hS (oo_shot hT  q4 hq4) (cwV 0 hts gL_shoots_X7_shot rfl rfl rfl (by decide +kernel) ⟨(Nat.le_of_ble_eq_true rfl), (Nat.le_of_ble_eq_true rfl)⟩) rfl rfl hl.1 (Nat.le_of_ble_eq_true rfl) dL_shoots_7 ⟨Nat.zero_le _, Nat.zero_le _⟩ (fun w H locs hT hP hD hS => ?_)
    refine lv_ldc hx hb hown k1_ dL_shoots_10 ?_
    refine lv_icmp_ne (tgt := 19) hx hb dL_shoots_12 (by decide) (fun hc5 => ?_) (fun hc5 => ?_)
    · replace hf := ie hc5 hf
      refine lv_iconst (v := (0 : Int32)) hx hb dL_shoots_19 (by decide) ?_
      obtain rfl := Option.some.inj hf
      exact ret 20 ls _ w H locs dL_shoots_20 (by decide) rfl hT hP hS
    · replace hf := it hc5 hf
      refine lv_iconst (v := (1 : Int32)) hx hb dL_shoots_15 (by decide) ?_
      refine lv_goto (tgt := 20) hx hb dL_shoots_16 (by decide) ?_
      obtain rfl := Option.some.inj hf
      exact ret 20 ls _ w H locs dL_shoots_20 (by decide) rfl hT hP hS
abbrev rmL_purges : Room := { frames := 6, cells := 0, slots := 0, locals := 163 }
set_option maxHeartbeats 4000000 in
set_option maxRecDepth 100000 in
theorem c_L_purges {w0 w : va_W} (bg : Nat) (bc : Nat) (t0 : Nat) (vg : Nat → Int32) (vc : Nat → Int32) (og : Sp) (hT : OB cI cC t0 w0 og w) (R : Int32 × (Nat → Int32) × (Nat → Int32) × Sp) (hf : f_L_purges vg vc og = some R) : WrO l yL_purges wsL_purges rmL_purges D cI cC t0 w0 w [(bg, .inl (cI, 15, .inl vg)), (bc, .inl (cI, 64, .inl vc))] [(bg, .inl (cI, 15, .inl R.2.1)), (bc, .inl (cI, 64, .inl R.2.2.1))] [.ref t0, .ref bg, .ref bc] R.1 R.2.2.2 := by
  refine en_O (cc := cL_purges) (n := 4) (by decide) rfl (Nat.le_of_ble_eq_true rfl) ?_
  intro p e s m args below meth c Q AA ls hx hb hml hown hts hK hN hP hD hS hST hl ret
  have hown : s.vm.findClass RL = some m.cls := hown
  have hF : FX p m c cL_purges 4 s args wsL_purges RL D cI cC := ⟨⟨hx, hb, hml, hown, hts⟩, hK, hN⟩
  have hl : lv_has ls 4 [(0, .ref t0), (1, .ref bg), (2, .ref bc)] := hl
  rw [f_L_purges] at hf
  obtain ⟨H, hH⟩ : ∃ z : Heap, z = s.heap := ⟨_, rfl⟩
  obtain ⟨locs, hL⟩ : ∃ z : List Loc, z = [] := ⟨_, rfl⟩
  replace hP := hH ▸ hP
  replace hS : va_S AA s.heap H locs := by rw [hH, hL]; exact hS
  suffices hgoal : W p l e rmL_purges s m args below meth c H locs 0 0 Q (F0 m 0 ls []) by rw [hH, hL] at hgoal; exact hgoal
  clear hH hL
  refine lv_aload_n hx hb dL_purges_0 rfl (lv_at hl 2 rfl) ?_
  obtain ⟨q1, hq1, hf⟩ := ob hf
  refine cl_RSL (X0 := [(bg, .inl (cI, 15, .inl vg)), (bc, .inl (cI, 64, .inl vc))]) (As := [.ref bc]) (rest := []) hF hP hD (c_L_amounts bc vc q1 hq1) (va_cwS 1 hts gL_purges_L_amounts rfl rfl rfl (by decide +kernel) ⟨(Nat.le_of_ble_eq_true rfl), (Nat.le_of_ble_eq_true rfl)⟩) [1] rfl (by decide +kernel) rfl rfl hl.1 (Nat.le_of_ble_eq_true rfl) dL_purges_1 ⟨Nat.zero_le _, Nat.zero_le _⟩ ?_
  refine lv_istore_n (lv' := [(3, .int q1), (0, .ref t0), (1, .ref bg), (2, .ref bc)]) hx hb dL_purges_4 rfl hl (by decide) rfl (fun ls hl => ?_)
  refine lv_aload_n hx hb dL_purges_5 rfl (lv_at hl 2 rfl) ?_
  refine lv_iconst (v := (4 : Int32)) hx hb dL_purges_6 (by decide) ?_
  refine lv_dup2_11 hx hb dL_purges_7 rfl rfl ?_
  refine va_iald hx hb hK hP 0 0 rfl rfl (show ¬ ((4 : Int32) < 0 ∨ 15 ≤ (4 : Int32).toNatClampNeg) by decide) dL_purges_8 ?_
  refine lv_iload_n hx hb dL_purges_9 rfl (lv_at hl 0 rfl) ?_
  refine lv_iadd hx hb dL_purges_10 ?_
  refine lv_topi (fun v2 ev2 => ?_)
  replace hf := lt_e ev2 hf
  refine x_iast hx hb hK hP hD hS 0 0 rfl rfl (show ¬ ((4 : Int32) < 0 ∨ 15 ≤ (4 : Int32).toNatClampNeg) by decide) dL_purges_11 (fun Z3 H locs eZ3 hP hD hS => ?_)
  replace hf := lt_e eZ3 hf
  have hP : va_P D vwCl ([(bg, .inl (cI, 15, .inl Z3)), (bc, .inl (cI, 64, .inl vc))] ++ w) H := hP
  have hD : va_D AA ([(bg, .inl (cI, 15, .inl Z3)), (bc, .inl (cI, 64, .inl vc))] ++ w) := hD
  refine lv_aload_n hx hb dL_purges_12 rfl (lv_at hl 3 rfl) ?_
  refine lv_iconst (v := (0 : Int32)) hx hb dL_purges_13 (by decide) ?_
  refine lv_iconst (v := (0 : Int32)) hx hb dL_purges_14 (by decide) ?_
  refine x_iast hx hb hK hP hD hS 1 0 rfl rfl (show ¬ ((0 : Int32) < 0 ∨ 64 ≤ (0 : Int32).toNatClampNeg) by decide) dL_purges_15 (fun Z4 H locs eZ4 hP hD hS => ?_)
  replace hf := lt_e eZ4 hf
  have hP : va_P D vwCl ([(bg, .inl (cI, 15, .inl Z3)), (bc, .inl (cI, 64, .inl Z4))] ++ w) H := hP
  have hD : va_D AA ([(bg, .inl (cI, 15, .inl Z3)), (bc, .inl (cI, 64, .inl Z4))] ++ w) := hD
  refine lv_aload_n hx hb dL_purges_16 rfl (lv_at hl 1 rfl) ?_
  obtain ⟨q5, hq5, hf⟩ := ob hf
  refine cl_WO (As := []) (rest := []) hF hP hD hS (oo_purge hT  q5 hq5) (cwV 0 hts gL_purges_X7_purge rfl rfl rfl (by decide +kernel) ⟨(Nat.le_of_ble_eq_true rfl), (Nat.le_of_ble_eq_true rfl)⟩) rfl rfl hl.1 (Nat.le_of_ble_eq_true rfl) dL_purges_17 ⟨Nat.zero_le _, Nat.zero_le _⟩ (fun w H locs hT hP hD hS => ?_)
  refine lv_iload_n hx hb dL_purges_20 rfl (lv_at hl 0 rfl) ?_
  refine lv_icmp_ne (tgt := 28) hx hb dL_purges_21 (by decide) (fun hc6 => ?_) (fun hc6 => ?_)
  · replace hf := ie hc6 hf
    refine lv_iconst (v := (0 : Int32)) hx hb dL_purges_28 (by decide) ?_
    obtain rfl := Option.some.inj hf
    exact ret 29 ls _ w H locs dL_purges_29 (by decide) rfl hT hP hS
  · replace hf := it hc6 hf
    refine lv_iconst (v := (1 : Int32)) hx hb dL_purges_24 (by decide) ?_
    refine lv_goto (tgt := 29) hx hb dL_purges_25 (by decide) ?_
    obtain rfl := Option.some.inj hf
    exact ret 29 ls _ w H locs dL_purges_29 (by decide) rfl hT hP hS
abbrev rmL_acts : Room := { frames := 7, cells := 0, slots := 0, locals := 193 }
set_option maxHeartbeats 4000000 in
set_option maxRecDepth 100000 in
theorem c_L_acts {w0 w : va_W} (bg : Nat) (bu : Nat) (bh : Nat) (bc : Nat) (be : Nat) (bt : Nat) (bx : Nat) (t0 : Nat) (x8 : Int32) (vg : Nat → Int32) (vu : Nat → Int32) (vh : Nat → Int32) (vc : Nat → Int32) (ve : Nat → Int32) (vt : Nat → Int32) (vx : Nat → Int32) (og : Sp) (hT : OB cI cC t0 w0 og w) (R : Int32 × (Nat → Int32) × (Nat → Int32) × (Nat → Int32) × (Nat → Int32) × (Nat → Int32) × (Nat → Int32) × (Nat → Int32) × Sp) (hf : f_L_acts x8 vg vu vh vc ve vt vx og = some R) : WrO l yL_acts wsL_acts rmL_acts D cI cC t0 w0 w [(bg, .inl (cI, 15, .inl vg)), (bu, .inl (cI, 8, .inl vu)), (bh, .inl (cI, 12, .inl vh)), (bc, .inl (cI, 64, .inl vc)), (be, .inl (cI, 64, .inl ve)), (bt, .inl (cI, 36, .inl vt)), (bx, .inl (cI, 48, .inl vx))] [(bg, .inl (cI, 15, .inl R.2.1)), (bu, .inl (cI, 8, .inl R.2.2.1)), (bh, .inl (cI, 12, .inl R.2.2.2.1)), (bc, .inl (cI, 64, .inl R.2.2.2.2.1)), (be, .inl (cI, 64, .inl R.2.2.2.2.2.1)), (bt, .inl (cI, 36, .inl R.2.2.2.2.2.2.1)), (bx, .inl (cI, 48, .inl R.2.2.2.2.2.2.2.1))] [.ref t0, .ref bg, .ref bu, .ref bh, .ref bc, .ref be, .ref bt, .ref bx, .int x8] R.1 R.2.2.2.2.2.2.2.2 := by
  refine en_O (cc := cL_acts) (n := 14) (by decide) rfl (Nat.le_of_ble_eq_true rfl) ?_
  intro p e s m args below meth c Q AA ls hx hb hml hown hts hK hN hP hD hS hST hl ret
  have hown : s.vm.findClass RL = some m.cls := hown
  have hF : FX p m c cL_acts 14 s args wsL_acts RL D cI cC := ⟨⟨hx, hb, hml, hown, hts⟩, hK, hN⟩
  have hl : lv_has ls 14 [(0, .ref t0), (1, .ref bg), (2, .ref bu), (3, .ref bh), (4, .ref bc), (5, .ref be), (6, .ref bt), (7, .ref bx), (8, .int x8)] := hl
  have k1_ := hts (.constant RL 52 (10000000)) (List.mem_of_getElem? (i := 1) rfl)
  have k2_ := hts (.constant RL 20 (-1000003)) (List.mem_of_getElem? (i := 2) rfl)
  have k3_ := hts (.constant RL 15 (-1000002)) (List.mem_of_getElem? (i := 3) rfl)
  have J708 : ∀ (y11_708 : Int32) (y12_708 : Int32) (z0_708 : Int32) (z1_708 : Int32) (vg_708 : Nat → Int32) (vu_708 : Nat → Int32) (vh_708 : Nat → Int32) (vc_708 : Nat → Int32) (ve_708 : Nat → Int32) (vt_708 : Nat → Int32) (vx_708 : Nat → Int32) (og_708 : Sp) (w : va_W) (H : Heap) (locs : List Loc), OB cI cC t0 w0 og_708 w → va_P D vwCl ([(bg, .inl (cI, 15, .inl vg_708)), (bu, .inl (cI, 8, .inl vu_708)), (bh, .inl (cI, 12, .inl vh_708)), (bc, .inl (cI, 64, .inl vc_708)), (be, .inl (cI, 64, .inl ve_708)), (bt, .inl (cI, 36, .inl vt_708)), (bx, .inl (cI, 48, .inl vx_708))] ++ w) H → va_D AA ([(bg, .inl (cI, 15, .inl vg_708)), (bu, .inl (cI, 8, .inl vu_708)), (bh, .inl (cI, 12, .inl vh_708)), (bc, .inl (cI, 64, .inl vc_708)), (be, .inl (cI, 64, .inl ve_708)), (bt, .inl (cI, 36, .inl vt_708)), (bx, .inl (cI, 48, .inl vx_708))] ++ w) → va_S AA s.heap H locs → ∀ ls : Array Slot, lv_has ls 14 [(0, .ref t0), (1, .ref bg), (11, .int y11_708), (12, .int y12_708)] → f_L_acts_J708 y11_708 y12_708 z0_708 z1_708 vg_708 vu_708 vh_708 vc_708 ve_708 vt_708 vx_708 og_708 = some R → W p l e rmL_acts s m args below meth c H locs 0 0 Q (F0 m 708 ls [.int z0_708, .int z1_708, .ref bg]) := by
    intro y11_708 y12_708 z0_708 z1_708 vg_708 vu_708 vh_708 vc_708 ve_708 vt_708 vx_708 og_708 w H locs hT hP hD hS ls hl hf
    rw [f_L_acts_J708] at hf
    obtain ⟨hg48, hf⟩ := gd_s hf
    refine x_iast hx hb hK hP hD hS 0 0 rfl rfl hg48 dL_acts_708 (fun Z49 H locs eZ49 hP hD hS => ?_)
    replace hf := lt_e eZ49 hf
    have hP : va_P D vwCl ([(bg, .inl (cI, 15, .inl Z49)), (bu, .inl (cI, 8, .inl vu_708)), (bh, .inl (cI, 12, .inl vh_708)), (bc, .inl (cI, 64, .inl vc_708)), (be, .inl (cI, 64, .inl ve_708)), (bt, .inl (cI, 36, .inl vt_708)), (bx, .inl (cI, 48, .inl vx_708))] ++ w) H := hP
    have hD : va_D AA ([(bg, .inl (cI, 15, .inl Z49)), (bu, .inl (cI, 8, .inl vu_708)), (bh, .inl (cI, 12, .inl vh_708)), (bc, .inl (cI, 64, .inl vc_708)), (be, .inl (cI, 64, .inl ve_708)), (bt, .inl (cI, 36, .inl vt_708)), (bx, .inl (cI, 48, .inl vx_708))] ++ w) := hD
    refine lv_aload_n hx hb dL_acts_709 rfl (lv_at hl 0 rfl) ?_
    refine lv_iload hx hb dL_acts_710 (lv_at hl 2 rfl) ?_
    refine lv_aload_n hx hb dL_acts_712 rfl (lv_at hl 1 rfl) ?_
    refine lv_bipush (v := (7 : Int32)) hx hb dL_acts_713 (by decide) ?_
    refine lv_iload hx hb dL_acts_715 (lv_at hl 2 rfl) ?_
    refine lv_iadd hx hb dL_acts_717 ?_
    obtain ⟨hg50, hf⟩ := gd_s hf
    refine va_iald hx hb hK hP 0 0 rfl rfl hg50 dL_acts_718 ?_
    obtain ⟨q51, hq51, hf⟩ := ob hf
    refine cl_SO (As := [.int y11_708, .int (Z49 ((7 : Int32) + y11_708).toNatClampNeg)]) (rest := []) hF hP hD hS hST (oo_set hT y11_708 (Z49 ((7 : Int32) + y11_708).toNatClampNeg) q51 hq51) (cwV 2 hts gL_acts_X7_set rfl rfl rfl (by decide +kernel) ⟨(Nat.le_of_ble_eq_true rfl), (Nat.le_of_ble_eq_true rfl)⟩) rfl rfl hl.1 (Nat.le_of_ble_eq_true rfl) dL_acts_719 ⟨Nat.zero_le _, Nat.zero_le _⟩ (fun w H locs hT hP hD hS => ?_)
    refine lv_iload hx hb dL_acts_722 (lv_at hl 3 rfl) ?_
    refine lv_icmp_ne (tgt := 731) hx hb dL_acts_724 (by decide) (fun hc52 => ?_) (fun hc52 => ?_)
    · replace hf := ie hc52 hf
      refine lv_iconst (v := (0 : Int32)) hx hb dL_acts_731 (by decide) ?_
      obtain rfl := Option.some.inj hf
      exact ret 732 ls _ w H locs dL_acts_732 (by decide) rfl hT hP hS
    · replace hf := it hc52 hf
      refine lv_iconst (v := (1 : Int32)) hx hb dL_acts_727 (by decide) ?_
      refine lv_goto (tgt := 732) hx hb dL_acts_728 (by decide) ?_
      obtain rfl := Option.some.inj hf
      exact ret 732 ls _ w H locs dL_acts_732 (by decide) rfl hT hP hS
  have J506 : ∀ (z0_506 : Int32) (z1_506 : Int32) (z2_506 : Int32) (vg_506 : Nat → Int32) (vu_506 : Nat → Int32) (vh_506 : Nat → Int32) (vc_506 : Nat → Int32) (ve_506 : Nat → Int32) (vt_506 : Nat → Int32) (vx_506 : Nat → Int32) (og_506 : Sp) (w : va_W) (H : Heap) (locs : List Loc), OB cI cC t0 w0 og_506 w → va_P D vwCl ([(bg, .inl (cI, 15, .inl vg_506)), (bu, .inl (cI, 8, .inl vu_506)), (bh, .inl (cI, 12, .inl vh_506)), (bc, .inl (cI, 64, .inl vc_506)), (be, .inl (cI, 64, .inl ve_506)), (bt, .inl (cI, 36, .inl vt_506)), (bx, .inl (cI, 48, .inl vx_506))] ++ w) H → va_D AA ([(bg, .inl (cI, 15, .inl vg_506)), (bu, .inl (cI, 8, .inl vu_506)), (bh, .inl (cI, 12, .inl vh_506)), (bc, .inl (cI, 64, .inl vc_506)), (be, .inl (cI, 64, .inl ve_506)), (bt, .inl (cI, 36, .inl vt_506)), (bx, .inl (cI, 48, .inl vx_506))] ++ w) → va_S AA s.heap H locs → ∀ ls : Array Slot, lv_has ls 14 [(0, .ref t0), (1, .ref bg), (2, .ref bu)] → f_L_acts_J506 z0_506 z1_506 z2_506 vg_506 vu_506 vh_506 vc_506 ve_506 vt_506 vx_506 og_506 = some R → W p l e rmL_acts s m args below meth c H locs 0 0 Q (F0 m 506 ls [.int z0_506, .int z1_506, .int z2_506]) := by
    intro z0_506 z1_506 z2_506 vg_506 vu_506 vh_506 vc_506 ve_506 vt_506 vx_506 og_506 w H locs hT hP hD hS ls hl hf
    rw [f_L_acts_J506] at hf
    obtain ⟨hg53, hf⟩ := gd_s hf
    refine lv_irem hx hb dL_acts_506 hg53 ?_
    refine lv_iadd hx hb dL_acts_507 ?_
    refine lv_topi (fun v54 ev54 => ?_)
    replace hf := lt_e ev54 hf
    refine lv_istore (lv' := [(11, .int v54), (0, .ref t0), (1, .ref bg), (2, .ref bu)]) hx hb dL_acts_508 hl (by decide) rfl (fun ls hl => ?_)
    refine lv_aload_n hx hb dL_acts_510 rfl (lv_at hl 1 rfl) ?_
    refine lv_iload hx hb dL_acts_511 (lv_at hl 0 rfl) ?_
    obtain ⟨q55, hq55, hf⟩ := ob hf
    refine cl_WO (As := [.int v54]) (rest := []) hF hP hD hS (oo_rest hT v54 q55 hq55) (cwV 1 hts gL_acts_X7_rest rfl rfl rfl (by decide +kernel) ⟨(Nat.le_of_ble_eq_true rfl), (Nat.le_of_ble_eq_true rfl)⟩) rfl rfl hl.1 (Nat.le_of_ble_eq_true rfl) dL_acts_513 ⟨Nat.zero_le _, Nat.zero_le _⟩ (fun w H locs hT hP hD hS => ?_)
    refine lv_aload_n hx hb dL_acts_516 rfl (lv_at hl 2 rfl) ?_
    refine lv_aload_n hx hb dL_acts_517 rfl (lv_at hl 3 rfl) ?_
    refine lv_iload hx hb dL_acts_518 (lv_at hl 0 rfl) ?_
    obtain ⟨q56, hq56, hf⟩ := ob hf
    refine cl_WSL (X0 := [(bg, .inl (cI, 15, .inl vg_506)), (bu, .inl (cI, 8, .inl vu_506)), (bh, .inl (cI, 12, .inl vh_506)), (bc, .inl (cI, 64, .inl vc_506)), (be, .inl (cI, 64, .inl ve_506)), (bt, .inl (cI, 36, .inl vt_506)), (bx, .inl (cI, 48, .inl vx_506))]) (X1 := [(bg, .inl (cI, 15, .inl q56.2.1)), (bu, .inl (cI, 8, .inl q56.2.2)), (bh, .inl (cI, 12, .inl vh_506)), (bc, .inl (cI, 64, .inl vc_506)), (be, .inl (cI, 64, .inl ve_506)), (bt, .inl (cI, 36, .inl vt_506)), (bx, .inl (cI, 48, .inl vx_506))]) (As := [.ref bg, .ref bu, .int v54]) (rest := [.int q55.1]) hF hP hD hS (c_L_pass bg bu v54 vg_506 vu_506 q56 hq56) (va_cwS 3 hts gL_acts_L_pass rfl rfl rfl (by decide +kernel) ⟨(Nat.le_of_ble_eq_true rfl), (Nat.le_of_ble_eq_true rfl)⟩) [0, 1] rfl (by decide +kernel) rfl rfl hl.1 (Nat.le_of_ble_eq_true rfl) dL_acts_520 ⟨Nat.zero_le _, Nat.zero_le _⟩ (hA2 [bg, bu] rfl rfl) [2, 3, 4, 5, 6] rfl [(bh, .inl (cI, 12, .inl vh_506)), (bc, .inl (cI, 64, .inl vc_506)), (be, .inl (cI, 64, .inl ve_506)), (bt, .inl (cI, 36, .inl vt_506)), (bx, .inl (cI, 48, .inl vx_506))] rfl rfl (nX := 7) rfl rfl (by decide +kernel) (fun H locs hP hD hS => ?_)
    refine lv_icmp_ne (tgt := 530) hx hb dL_acts_523 (by decide) (fun hc57 => ?_) (fun hc57 => ?_)
    · replace hf := ie hc57 hf
      refine lv_iconst (v := (0 : Int32)) hx hb dL_acts_530 (by decide) ?_
      obtain rfl := Option.some.inj hf
      exact ret 531 ls _ w H locs dL_acts_531 (by decide) rfl hT hP hS
    · replace hf := it hc57 hf
      refine lv_iconst (v := (1 : Int32)) hx hb dL_acts_526 (by decide) ?_
      refine lv_goto (tgt := 531) hx hb dL_acts_527 (by decide) ?_
      obtain rfl := Option.some.inj hf
      exact ret 531 ls _ w H locs dL_acts_531 (by decide) rfl hT hP hS
  have J299 : ∀ (y11_299 : Int32) (z0_299 : Int32) (z1_299 : Int32) (z2_299 : Int32) (vg_299 : Nat → Int32) (vu_299 : Nat → Int32) (vh_299 : Nat → Int32) (vc_299 : Nat → Int32) (ve_299 : Nat → Int32) (vt_299 : Nat → Int32) (vx_299 : Nat → Int32) (og_299 : Sp) (w : va_W) (H : Heap) (locs : List Loc), OB cI cC t0 w0 og_299 w → va_P D vwCl ([(bg, .inl (cI, 15, .inl vg_299)), (bu, .inl (cI, 8, .inl vu_299)), (bh, .inl (cI, 12, .inl vh_299)), (bc, .inl (cI, 64, .inl vc_299)), (be, .inl (cI, 64, .inl ve_299)), (bt, .inl (cI, 36, .inl vt_299)), (bx, .inl (cI, 48, .inl vx_299))] ++ w) H → va_D AA ([(bg, .inl (cI, 15, .inl vg_299)), (bu, .inl (cI, 8, .inl vu_299)), (bh, .inl (cI, 12, .inl vh_299)), (bc, .inl (cI, 64, .inl vc_299)), (be, .inl (cI, 64, .inl ve_299)), (bt, .inl (cI, 36, .inl vt_299)), (bx, .inl (cI, 48, .inl vx_299))] ++ w) → va_S AA s.heap H locs → ∀ ls : Array Slot, lv_has ls 14 [(0, .ref t0), (1, .ref bg), (2, .ref bu), (3, .ref bh), (4, .ref bc), (5, .ref be), (11, .int y11_299)] → f_L_acts_J299 y11_299 z0_299 z1_299 z2_299 vg_299 vu_299 vh_299 vc_299 ve_299 vt_299 vx_299 og_299 = some R → W p l e rmL_acts s m args below meth c H locs 0 0 Q (F0 m 299 ls [.int z0_299, .int z1_299, .int z2_299]) := by
    intro y11_299 z0_299 z1_299 z2_299 vg_299 vu_299 vh_299 vc_299 ve_299 vt_299 vx_299 og_299 w H locs hT hP hD hS ls hl hf
    rw [f_L_acts_J299] at hf
    obtain ⟨hg58, hf⟩ := gd_s hf
    refine lv_irem hx hb dL_acts_299 hg58 ?_
    refine lv_iadd hx hb dL_acts_300 ?_
    refine lv_topi (fun v59 ev59 => ?_)
    replace hf := lt_e ev59 hf
    refine lv_istore (lv' := [(12, .int v59), (0, .ref t0), (1, .ref bg), (2, .ref bu), (3, .ref bh), (4, .ref bc), (5, .ref be), (11, .int y11_299)]) hx hb dL_acts_301 hl (by decide) rfl (fun ls hl => ?_)
    refine lv_aload_n hx hb dL_acts_303 rfl (lv_at hl 2 rfl) ?_
    refine lv_aload_n hx hb dL_acts_304 rfl (lv_at hl 4 rfl) ?_
    refine lv_aload hx hb dL_acts_305 (lv_at hl 5 rfl) ?_
    refine lv_aload hx hb dL_acts_307 (lv_at hl 6 rfl) ?_
    refine lv_iload hx hb dL_acts_309 (lv_at hl 0 rfl) ?_
    obtain ⟨q60, hq60, hf⟩ := ob hf
    refine cl_RSL (X0 := [(bg, .inl (cI, 15, .inl vg_299)), (bu, .inl (cI, 8, .inl vu_299)), (bh, .inl (cI, 12, .inl vh_299)), (bc, .inl (cI, 64, .inl vc_299)), (be, .inl (cI, 64, .inl ve_299)), (bt, .inl (cI, 36, .inl vt_299)), (bx, .inl (cI, 48, .inl vx_299))]) (As := [.ref bg, .ref bh, .ref bc, .ref be, .int v59]) (rest := []) hF hP hD (c_L_can bg bh bc be v59 vg_299 vh_299 vc_299 ve_299 q60 hq60) (va_cwS 5 hts gL_acts_L_can rfl rfl rfl (by decide +kernel) ⟨(Nat.le_of_ble_eq_true rfl), (Nat.le_of_ble_eq_true rfl)⟩) [0, 2, 3, 4] rfl (by decide +kernel) rfl rfl hl.1 (Nat.le_of_ble_eq_true rfl) dL_acts_311 ⟨Nat.zero_le _, Nat.zero_le _⟩ ?_
    refine lv_istore (lv' := [(13, .int q60), (12, .int v59), (0, .ref t0), (1, .ref bg), (2, .ref bu), (3, .ref bh), (4, .ref bc), (5, .ref be), (11, .int y11_299)]) hx hb dL_acts_314 hl (by decide) rfl (fun ls hl => ?_)
    refine lv_iload hx hb dL_acts_316 (lv_at hl 0 rfl) ?_
    refine lv_if_ge (tgt := 340) hx hb dL_acts_318 (by decide) (fun hc61 => ?_) (fun hc61 => ?_)
    · replace hf := it hc61 hf
      refine lv_aload_n hx hb dL_acts_340 rfl (lv_at hl 3 rfl) ?_
      refine lv_aload_n hx hb dL_acts_341 rfl (lv_at hl 4 rfl) ?_
      refine lv_aload_n hx hb dL_acts_342 rfl (lv_at hl 5 rfl) ?_
      refine lv_aload hx hb dL_acts_343 (lv_at hl 6 rfl) ?_
      refine lv_aload hx hb dL_acts_345 (lv_at hl 7 rfl) ?_
      refine lv_iload hx hb dL_acts_347 (lv_at hl 8 rfl) ?_
      refine lv_iload hx hb dL_acts_349 (lv_at hl 1 rfl) ?_
      obtain ⟨q62, hq62, hf⟩ := ob hf
      refine cl_VSL (X0 := [(bg, .inl (cI, 15, .inl vg_299)), (bu, .inl (cI, 8, .inl vu_299)), (bh, .inl (cI, 12, .inl vh_299)), (bc, .inl (cI, 64, .inl vc_299)), (be, .inl (cI, 64, .inl ve_299)), (bt, .inl (cI, 36, .inl vt_299)), (bx, .inl (cI, 48, .inl vx_299))]) (X1 := [(bg, .inl (cI, 15, .inl q62.1)), (bu, .inl (cI, 8, .inl q62.2.1)), (bh, .inl (cI, 12, .inl q62.2.2.1)), (bc, .inl (cI, 64, .inl q62.2.2.2.1)), (be, .inl (cI, 64, .inl q62.2.2.2.2)), (bt, .inl (cI, 36, .inl vt_299)), (bx, .inl (cI, 48, .inl vx_299))]) (As := [.ref bg, .ref bu, .ref bh, .ref bc, .ref be, .int y11_299, .int v59]) (rest := []) hF hP hD hS (c_L_grind bg bu bh bc be y11_299 v59 vg_299 vu_299 vh_299 vc_299 ve_299 q62 hq62) (va_cwS 7 hts gL_acts_L_grind rfl rfl rfl (by decide +kernel) ⟨(Nat.le_of_ble_eq_true rfl), (Nat.le_of_ble_eq_true rfl)⟩) [0, 1, 2, 3, 4] rfl (by decide +kernel) rfl rfl hl.1 (Nat.le_of_ble_eq_true rfl) dL_acts_351 ⟨Nat.zero_le _, Nat.zero_le _⟩ (hA2 [bg, bu, bh, bc, be] rfl rfl) [5, 6] rfl [(bt, .inl (cI, 36, .inl vt_299)), (bx, .inl (cI, 48, .inl vx_299))] rfl rfl (nX := 7) rfl rfl (by decide +kernel) (fun H locs hP hD hS => ?_)
      refine lv_aload_n hx hb dL_acts_354 rfl (lv_at hl 3 rfl) ?_
      refine lv_aload_n hx hb dL_acts_355 rfl (lv_at hl 4 rfl) ?_
      refine lv_iload hx hb dL_acts_356 (lv_at hl 1 rfl) ?_
      refine lv_bipush (v := (9 : Int32)) hx hb dL_acts_358 (by decide) ?_
      refine lv_iadd hx hb dL_acts_360 ?_
      refine lv_bipush (v := (10 : Int32)) hx hb dL_acts_361 (by decide) ?_
      refine lv_idiv hx hb dL_acts_363 (by decide) ?_
      obtain ⟨q63, hq63, hf⟩ := ob hf
      refine cl_WSL (X0 := [(bg, .inl (cI, 15, .inl q62.1)), (bu, .inl (cI, 8, .inl q62.2.1)), (bh, .inl (cI, 12, .inl q62.2.2.1)), (bc, .inl (cI, 64, .inl q62.2.2.2.1)), (be, .inl (cI, 64, .inl q62.2.2.2.2)), (bt, .inl (cI, 36, .inl vt_299)), (bx, .inl (cI, 48, .inl vx_299))]) (X1 := [(bg, .inl (cI, 15, .inl q63.2.1)), (bu, .inl (cI, 8, .inl q63.2.2)), (bh, .inl (cI, 12, .inl q62.2.2.1)), (bc, .inl (cI, 64, .inl q62.2.2.2.1)), (be, .inl (cI, 64, .inl q62.2.2.2.2)), (bt, .inl (cI, 36, .inl vt_299)), (bx, .inl (cI, 48, .inl vx_299))]) (As := [.ref bg, .ref bu, .int ((v59 + (9 : Int32)) / (10 : Int32))]) (rest := []) hF hP hD hS (c_L_pass bg bu ((v59 + (9 : Int32)) / (10 : Int32)) q62.1 q62.2.1 q63 hq63) (va_cwS 3 hts gL_acts_L_pass rfl rfl rfl (by decide +kernel) ⟨(Nat.le_of_ble_eq_true rfl), (Nat.le_of_ble_eq_true rfl)⟩) [0, 1] rfl (by decide +kernel) rfl rfl hl.1 (Nat.le_of_ble_eq_true rfl) dL_acts_364 ⟨Nat.zero_le _, Nat.zero_le _⟩ (hA2 [bg, bu] rfl rfl) [2, 3, 4, 5, 6] rfl [(bh, .inl (cI, 12, .inl q62.2.2.1)), (bc, .inl (cI, 64, .inl q62.2.2.2.1)), (be, .inl (cI, 64, .inl q62.2.2.2.2)), (bt, .inl (cI, 36, .inl vt_299)), (bx, .inl (cI, 48, .inl vx_299))] rfl rfl (nX := 7) rfl rfl (by decide +kernel) (fun H locs hP hD hS => ?_)
      refine lv_pop hx hb dL_acts_367 rfl ?_
      refine lv_aload_n hx hb dL_acts_368 rfl (lv_at hl 2 rfl) ?_
      refine lv_iload hx hb dL_acts_369 (lv_at hl 8 rfl) ?_
      refine lv_iload hx hb dL_acts_371 (lv_at hl 1 rfl) ?_
      obtain ⟨q64, hq64, hf⟩ := ob hf
      refine cl_WO (As := [.int y11_299, .int v59]) (rest := []) hF hP hD hS (oo_grind hT y11_299 v59 q64 hq64) (cwV 2 hts gL_acts_X7_grind rfl rfl rfl (by decide +kernel) ⟨(Nat.le_of_ble_eq_true rfl), (Nat.le_of_ble_eq_true rfl)⟩) rfl rfl hl.1 (Nat.le_of_ble_eq_true rfl) dL_acts_373 ⟨Nat.zero_le _, Nat.zero_le _⟩ (fun w H locs hT hP hD hS => ?_)
      refine lv_iload hx hb dL_acts_376 (lv_at hl 0 rfl) ?_
      refine lv_icmp_ne (tgt := 385) hx hb dL_acts_378 (by decide) (fun hc65 => ?_) (fun hc65 => ?_)
      · replace hf := ie hc65 hf
        refine lv_iconst (v := (0 : Int32)) hx hb dL_acts_385 (by decide) ?_
        obtain rfl := Option.some.inj hf
        exact ret 386 ls _ w H locs dL_acts_386 (by decide) rfl hT hP hS
      · replace hf := it hc65 hf
        refine lv_iconst (v := (1 : Int32)) hx hb dL_acts_381 (by decide) ?_
        refine lv_goto (tgt := 386) hx hb dL_acts_382 (by decide) ?_
        obtain rfl := Option.some.inj hf
        exact ret 386 ls _ w H locs dL_acts_386 (by decide) rfl hT hP hS
    · replace hf := ie hc61 hf
      refine lv_aload_n hx hb dL_acts_321 rfl (lv_at hl 2 rfl) ?_
      refine lv_iload hx hb dL_acts_322 (lv_at hl 8 rfl) ?_
      refine lv_iload hx hb dL_acts_324 (lv_at hl 1 rfl) ?_
      obtain ⟨q66, hq66, hf⟩ := ob hf
      refine cl_WO (As := [.int y11_299, .int v59]) (rest := []) hF hP hD hS (oo_grind hT y11_299 v59 q66 hq66) (cwV 2 hts gL_acts_X7_grind rfl rfl rfl (by decide +kernel) ⟨(Nat.le_of_ble_eq_true rfl), (Nat.le_of_ble_eq_true rfl)⟩) rfl rfl hl.1 (Nat.le_of_ble_eq_true rfl) dL_acts_326 ⟨Nat.zero_le _, Nat.zero_le _⟩ (fun w H locs hT hP hD hS => ?_)
      refine lv_iload hx hb dL_acts_329 (lv_at hl 0 rfl) ?_
      refine lv_icmp_ne (tgt := 338) hx hb dL_acts_331 (by decide) (fun hc67 => ?_) (fun hc67 => ?_)
      · replace hf := ie hc67 hf
        refine lv_iconst (v := (0 : Int32)) hx hb dL_acts_338 (by decide) ?_
        obtain rfl := Option.some.inj hf
        exact ret 339 ls _ w H locs dL_acts_339 (by decide) rfl hT hP hS
      · replace hf := it hc67 hf
        refine lv_iconst (v := (1 : Int32)) hx hb dL_acts_334 (by decide) ?_
        refine lv_goto (tgt := 339) hx hb dL_acts_335 (by decide) ?_
        obtain rfl := Option.some.inj hf
        exact ret 339 ls _ w H locs dL_acts_339 (by decide) rfl hT hP hS
  have J235 : ∀ (y11_235 : Int32) (y12_235 : Int32) (vg_235 : Nat → Int32) (vu_235 : Nat → Int32) (vh_235 : Nat → Int32) (vc_235 : Nat → Int32) (ve_235 : Nat → Int32) (vt_235 : Nat → Int32) (vx_235 : Nat → Int32) (og_235 : Sp) (w : va_W) (H : Heap) (locs : List Loc), OB cI cC t0 w0 og_235 w → va_P D vwCl ([(bg, .inl (cI, 15, .inl vg_235)), (bu, .inl (cI, 8, .inl vu_235)), (bh, .inl (cI, 12, .inl vh_235)), (bc, .inl (cI, 64, .inl vc_235)), (be, .inl (cI, 64, .inl ve_235)), (bt, .inl (cI, 36, .inl vt_235)), (bx, .inl (cI, 48, .inl vx_235))] ++ w) H → va_D AA ([(bg, .inl (cI, 15, .inl vg_235)), (bu, .inl (cI, 8, .inl vu_235)), (bh, .inl (cI, 12, .inl vh_235)), (bc, .inl (cI, 64, .inl vc_235)), (be, .inl (cI, 64, .inl ve_235)), (bt, .inl (cI, 36, .inl vt_235)), (bx, .inl (cI, 48, .inl vx_235))] ++ w) → va_S AA s.heap H locs → ∀ ls : Array Slot, lv_has ls 14 [(0, .ref t0), (1, .ref bg), (3, .ref bh), (11, .int y11_235), (12, .int y12_235)] → f_L_acts_J235 y11_235 y12_235 vg_235 vu_235 vh_235 vc_235 ve_235 vt_235 vx_235 og_235 = some R → W p l e rmL_acts s m args below meth c H locs 0 0 Q (F0 m 235 ls []) := by
    intro y11_235 y12_235 vg_235 vu_235 vh_235 vc_235 ve_235 vt_235 vx_235 og_235 w H locs hT hP hD hS ls hl hf
    rw [f_L_acts_J235] at hf
    refine lv_aload_n hx hb dL_acts_235 rfl (lv_at hl 1 rfl) ?_
    refine lv_iconst (v := (1 : Int32)) hx hb dL_acts_236 (by decide) ?_
    refine lv_dup2_11 hx hb dL_acts_237 rfl rfl ?_
    refine va_iald hx hb hK hP 0 0 rfl rfl (show ¬ ((1 : Int32) < 0 ∨ 15 ≤ (1 : Int32).toNatClampNeg) by decide) dL_acts_238 ?_
    refine lv_iload hx hb dL_acts_239 (lv_at hl 4 rfl) ?_
    refine lv_iadd hx hb dL_acts_241 ?_
    refine lv_topi (fun v91 ev91 => ?_)
    replace hf := lt_e ev91 hf
    refine x_iast hx hb hK hP hD hS 0 0 rfl rfl (show ¬ ((1 : Int32) < 0 ∨ 15 ≤ (1 : Int32).toNatClampNeg) by decide) dL_acts_242 (fun Z92 H locs eZ92 hP hD hS => ?_)
    replace hf := lt_e eZ92 hf
    have hP : va_P D vwCl ([(bg, .inl (cI, 15, .inl Z92)), (bu, .inl (cI, 8, .inl vu_235)), (bh, .inl (cI, 12, .inl vh_235)), (bc, .inl (cI, 64, .inl vc_235)), (be, .inl (cI, 64, .inl ve_235)), (bt, .inl (cI, 36, .inl vt_235)), (bx, .inl (cI, 48, .inl vx_235))] ++ w) H := hP
    have hD : va_D AA ([(bg, .inl (cI, 15, .inl Z92)), (bu, .inl (cI, 8, .inl vu_235)), (bh, .inl (cI, 12, .inl vh_235)), (bc, .inl (cI, 64, .inl vc_235)), (be, .inl (cI, 64, .inl ve_235)), (bt, .inl (cI, 36, .inl vt_235)), (bx, .inl (cI, 48, .inl vx_235))] ++ w) := hD
    refine lv_aload_n hx hb dL_acts_243 rfl (lv_at hl 0 rfl) ?_
    refine lv_iload hx hb dL_acts_244 (lv_at hl 3 rfl) ?_
    refine lv_iload hx hb dL_acts_246 (lv_at hl 4 rfl) ?_
    obtain ⟨q93, hq93, hf⟩ := ob hf
    refine cl_WO (As := [.int y11_235, .int y12_235]) (rest := []) hF hP hD hS (oo_fill hT y11_235 y12_235 q93 hq93) (cwV 2 hts gL_acts_X7_fill rfl rfl rfl (by decide +kernel) ⟨(Nat.le_of_ble_eq_true rfl), (Nat.le_of_ble_eq_true rfl)⟩) rfl rfl hl.1 (Nat.le_of_ble_eq_true rfl) dL_acts_248 ⟨Nat.zero_le _, Nat.zero_le _⟩ (fun w H locs hT hP hD hS => ?_)
    refine lv_aload_n hx hb dL_acts_251 rfl (lv_at hl 1 rfl) ?_
    refine lv_aload_n hx hb dL_acts_252 rfl (lv_at hl 2 rfl) ?_
    obtain ⟨q94, hq94, hf⟩ := ob hf
    refine cl_RSL (X0 := [(bg, .inl (cI, 15, .inl Z92)), (bu, .inl (cI, 8, .inl vu_235)), (bh, .inl (cI, 12, .inl vh_235)), (bc, .inl (cI, 64, .inl vc_235)), (be, .inl (cI, 64, .inl ve_235)), (bt, .inl (cI, 36, .inl vt_235)), (bx, .inl (cI, 48, .inl vx_235))]) (As := [.ref bg, .ref bh]) (rest := [.int q93.1]) hF hP hD (c_L_hopper bg bh Z92 vh_235 q94 hq94) (va_cwS 2 hts gL_acts_L_hopper rfl rfl rfl (by decide +kernel) ⟨(Nat.le_of_ble_eq_true rfl), (Nat.le_of_ble_eq_true rfl)⟩) [0, 2] rfl (by decide +kernel) rfl rfl hl.1 (Nat.le_of_ble_eq_true rfl) dL_acts_253 ⟨Nat.zero_le _, Nat.zero_le _⟩ ?_
    refine lv_icmp_ne (tgt := 263) hx hb dL_acts_256 (by decide) (fun hc95 => ?_) (fun hc95 => ?_)
    · replace hf := ie hc95 hf
      refine lv_iconst (v := (0 : Int32)) hx hb dL_acts_263 (by decide) ?_
      obtain rfl := Option.some.inj hf
      exact ret 264 ls _ w H locs dL_acts_264 (by decide) rfl hT hP hS
    · replace hf := it hc95 hf
      refine lv_iconst (v := (1 : Int32)) hx hb dL_acts_259 (by decide) ?_
      refine lv_goto (tgt := 264) hx hb dL_acts_260 (by decide) ?_
      obtain rfl := Option.some.inj hf
      exact ret 264 ls _ w H locs dL_acts_264 (by decide) rfl hT hP hS
  have J163 : ∀ (y11_163 : Int32) (y12_163 : Int32) (vg_163 : Nat → Int32) (vu_163 : Nat → Int32) (vh_163 : Nat → Int32) (vc_163 : Nat → Int32) (ve_163 : Nat → Int32) (vt_163 : Nat → Int32) (vx_163 : Nat → Int32) (og_163 : Sp) (w : va_W) (H : Heap) (locs : List Loc), OB cI cC t0 w0 og_163 w → va_P D vwCl ([(bg, .inl (cI, 15, .inl vg_163)), (bu, .inl (cI, 8, .inl vu_163)), (bh, .inl (cI, 12, .inl vh_163)), (bc, .inl (cI, 64, .inl vc_163)), (be, .inl (cI, 64, .inl ve_163)), (bt, .inl (cI, 36, .inl vt_163)), (bx, .inl (cI, 48, .inl vx_163))] ++ w) H → va_D AA ([(bg, .inl (cI, 15, .inl vg_163)), (bu, .inl (cI, 8, .inl vu_163)), (bh, .inl (cI, 12, .inl vh_163)), (bc, .inl (cI, 64, .inl vc_163)), (be, .inl (cI, 64, .inl ve_163)), (bt, .inl (cI, 36, .inl vt_163)), (bx, .inl (cI, 48, .inl vx_163))] ++ w) → va_S AA s.heap H locs → ∀ ls : Array Slot, lv_has ls 14 [(0, .ref t0), (11, .int y11_163), (12, .int y12_163)] → f_L_acts_J163 y11_163 y12_163 vg_163 vu_163 vh_163 vc_163 ve_163 vt_163 vx_163 og_163 = some R → W p l e rmL_acts s m args below meth c H locs 0 0 Q (F0 m 163 ls []) := by
    intro y11_163 y12_163 vg_163 vu_163 vh_163 vc_163 ve_163 vt_163 vx_163 og_163 w H locs hT hP hD hS ls hl hf
    rw [f_L_acts_J163] at hf
    refine lv_aload_n hx hb dL_acts_163 rfl (lv_at hl 0 rfl) ?_
    refine lv_iload hx hb dL_acts_164 (lv_at hl 1 rfl) ?_
    refine lv_iload hx hb dL_acts_166 (lv_at hl 2 rfl) ?_
    obtain ⟨q89, hq89, hf⟩ := ob hf
    refine cl_WO (As := [.int y11_163, .int y12_163]) (rest := []) hF hP hD hS (oo_fill hT y11_163 y12_163 q89 hq89) (cwV 2 hts gL_acts_X7_fill rfl rfl rfl (by decide +kernel) ⟨(Nat.le_of_ble_eq_true rfl), (Nat.le_of_ble_eq_true rfl)⟩) rfl rfl hl.1 (Nat.le_of_ble_eq_true rfl) dL_acts_168 ⟨Nat.zero_le _, Nat.zero_le _⟩ (fun w H locs hT hP hD hS => ?_)
    refine lv_ldc hx hb hown k2_ dL_acts_171 ?_
    refine lv_icmp_ne (tgt := 180) hx hb dL_acts_173 (by decide) (fun hc90 => ?_) (fun hc90 => ?_)
    · replace hf := ie hc90 hf
      refine lv_iconst (v := (0 : Int32)) hx hb dL_acts_180 (by decide) ?_
      obtain rfl := Option.some.inj hf
      exact ret 181 ls _ w H locs dL_acts_181 (by decide) rfl hT hP hS
    · replace hf := it hc90 hf
      refine lv_iconst (v := (1 : Int32)) hx hb dL_acts_176 (by decide) ?_
      refine lv_goto (tgt := 181) hx hb dL_acts_177 (by decide) ?_
      obtain rfl := Option.some.inj hf
      exact ret 181 ls _ w H locs dL_acts_181 (by decide) rfl hT hP hS
  have J149 : ∀ (y11_149 : Int32) (y12_149 : Int32) (y13_149 : Int32) (vg_149 : Nat → Int32) (vu_149 : Nat → Int32) (vh_149 : Nat → Int32) (vc_149 : Nat → Int32) (ve_149 : Nat → Int32) (vt_149 : Nat → Int32) (vx_149 : Nat → Int32) (og_149 : Sp) (w : va_W) (H : Heap) (locs : List Loc), OB cI cC t0 w0 og_149 w → va_P D vwCl ([(bg, .inl (cI, 15, .inl vg_149)), (bu, .inl (cI, 8, .inl vu_149)), (bh, .inl (cI, 12, .inl vh_149)), (bc, .inl (cI, 64, .inl vc_149)), (be, .inl (cI, 64, .inl ve_149)), (bt, .inl (cI, 36, .inl vt_149)), (bx, .inl (cI, 48, .inl vx_149))] ++ w) H → va_D AA ([(bg, .inl (cI, 15, .inl vg_149)), (bu, .inl (cI, 8, .inl vu_149)), (bh, .inl (cI, 12, .inl vh_149)), (bc, .inl (cI, 64, .inl vc_149)), (be, .inl (cI, 64, .inl ve_149)), (bt, .inl (cI, 36, .inl vt_149)), (bx, .inl (cI, 48, .inl vx_149))] ++ w) → va_S AA s.heap H locs → ∀ ls : Array Slot, lv_has ls 14 [(0, .ref t0), (1, .ref bg), (3, .ref bh), (11, .int y11_149), (12, .int y12_149), (13, .int y13_149)] → f_L_acts_J149 y11_149 y12_149 y13_149 vg_149 vu_149 vh_149 vc_149 ve_149 vt_149 vx_149 og_149 = some R → W p l e rmL_acts s m args below meth c H locs 0 0 Q (F0 m 149 ls []) := by
    intro y11_149 y12_149 y13_149 vg_149 vu_149 vh_149 vc_149 ve_149 vt_149 vx_149 og_149 w H locs hT hP hD hS ls hl hf
    rw [f_L_acts_J149] at hf
    refine lv_aload_n hx hb dL_acts_149 rfl (lv_at hl 1 rfl) ?_
    refine lv_aload_n hx hb dL_acts_150 rfl (lv_at hl 2 rfl) ?_
    obtain ⟨q75, hq75, hf⟩ := ob hf
    refine cl_RSL (X0 := [(bg, .inl (cI, 15, .inl vg_149)), (bu, .inl (cI, 8, .inl vu_149)), (bh, .inl (cI, 12, .inl vh_149)), (bc, .inl (cI, 64, .inl vc_149)), (be, .inl (cI, 64, .inl ve_149)), (bt, .inl (cI, 36, .inl vt_149)), (bx, .inl (cI, 48, .inl vx_149))]) (As := [.ref bg, .ref bh]) (rest := []) hF hP hD (c_L_hopper bg bh vg_149 vh_149 q75 hq75) (va_cwS 2 hts gL_acts_L_hopper rfl rfl rfl (by decide +kernel) ⟨(Nat.le_of_ble_eq_true rfl), (Nat.le_of_ble_eq_true rfl)⟩) [0, 2] rfl (by decide +kernel) rfl rfl hl.1 (Nat.le_of_ble_eq_true rfl) dL_acts_151 ⟨Nat.zero_le _, Nat.zero_le _⟩ ?_
    refine lv_iload hx hb dL_acts_154 (lv_at hl 4 rfl) ?_
    refine lv_iadd hx hb dL_acts_156 ?_
    refine lv_sipush (v := (4000 : Int32)) hx hb dL_acts_157 (by decide) ?_
    refine lv_icmp_le (tgt := 182) hx hb dL_acts_160 (by decide) (fun hc76 => ?_) (fun hc76 => ?_)
    · replace hf := it hc76 hf
      refine lv_iload hx hb dL_acts_182 (lv_at hl 5 rfl) ?_
      refine lv_if_eq (tgt := 205) hx hb dL_acts_184 (by decide) (fun hc77 => ?_) (fun hc77 => ?_)
      · replace hf := it hc77 hf
        refine lv_aload_n hx hb dL_acts_205 rfl (lv_at hl 2 rfl) ?_
        refine lv_iconst (v := (2 : Int32)) hx hb dL_acts_206 (by decide) ?_
        refine lv_aload_n hx hb dL_acts_207 rfl (lv_at hl 1 rfl) ?_
        refine lv_bipush (v := (13 : Int32)) hx hb dL_acts_208 (by decide) ?_
        refine va_iald hx hb hK hP 0 0 rfl rfl (show ¬ ((13 : Int32) < 0 ∨ 15 ≤ (13 : Int32).toNatClampNeg) by decide) dL_acts_210 ?_
        refine lv_imul hx hb dL_acts_211 ?_
        refine lv_iload hx hb dL_acts_212 (lv_at hl 3 rfl) ?_
        obtain ⟨hg78, hf⟩ := gd_s hf
        refine x_iast hx hb hK hP hD hS 2 0 rfl rfl hg78 dL_acts_214 (fun Z79 H locs eZ79 hP hD hS => ?_)
        replace hf := lt_e eZ79 hf
        have hP : va_P D vwCl ([(bg, .inl (cI, 15, .inl vg_149)), (bu, .inl (cI, 8, .inl vu_149)), (bh, .inl (cI, 12, .inl Z79)), (bc, .inl (cI, 64, .inl vc_149)), (be, .inl (cI, 64, .inl ve_149)), (bt, .inl (cI, 36, .inl vt_149)), (bx, .inl (cI, 48, .inl vx_149))] ++ w) H := hP
        have hD : va_D AA ([(bg, .inl (cI, 15, .inl vg_149)), (bu, .inl (cI, 8, .inl vu_149)), (bh, .inl (cI, 12, .inl Z79)), (bc, .inl (cI, 64, .inl vc_149)), (be, .inl (cI, 64, .inl ve_149)), (bt, .inl (cI, 36, .inl vt_149)), (bx, .inl (cI, 48, .inl vx_149))] ++ w) := hD
        refine lv_aload_n hx hb dL_acts_215 rfl (lv_at hl 2 rfl) ?_
        refine lv_iconst (v := (2 : Int32)) hx hb dL_acts_216 (by decide) ?_
        refine lv_aload_n hx hb dL_acts_217 rfl (lv_at hl 1 rfl) ?_
        refine lv_bipush (v := (13 : Int32)) hx hb dL_acts_218 (by decide) ?_
        refine va_iald hx hb hK hP 0 0 rfl rfl (show ¬ ((13 : Int32) < 0 ∨ 15 ≤ (13 : Int32).toNatClampNeg) by decide) dL_acts_220 ?_
        refine lv_imul hx hb dL_acts_221 ?_
        refine lv_iconst (v := (1 : Int32)) hx hb dL_acts_222 (by decide) ?_
        refine lv_iadd hx hb dL_acts_223 ?_
        refine lv_iload hx hb dL_acts_224 (lv_at hl 4 rfl) ?_
        obtain ⟨hg80, hf⟩ := gd_s hf
        refine x_iast hx hb hK hP hD hS 2 0 rfl rfl hg80 dL_acts_226 (fun Z81 H locs eZ81 hP hD hS => ?_)
        replace hf := lt_e eZ81 hf
        have hP : va_P D vwCl ([(bg, .inl (cI, 15, .inl vg_149)), (bu, .inl (cI, 8, .inl vu_149)), (bh, .inl (cI, 12, .inl Z81)), (bc, .inl (cI, 64, .inl vc_149)), (be, .inl (cI, 64, .inl ve_149)), (bt, .inl (cI, 36, .inl vt_149)), (bx, .inl (cI, 48, .inl vx_149))] ++ w) H := hP
        have hD : va_D AA ([(bg, .inl (cI, 15, .inl vg_149)), (bu, .inl (cI, 8, .inl vu_149)), (bh, .inl (cI, 12, .inl Z81)), (bc, .inl (cI, 64, .inl vc_149)), (be, .inl (cI, 64, .inl ve_149)), (bt, .inl (cI, 36, .inl vt_149)), (bx, .inl (cI, 48, .inl vx_149))] ++ w) := hD
        refine lv_aload_n hx hb dL_acts_227 rfl (lv_at hl 1 rfl) ?_
        refine lv_bipush (v := (13 : Int32)) hx hb dL_acts_228 (by decide) ?_
        refine lv_dup2_11 hx hb dL_acts_230 rfl rfl ?_
        refine va_iald hx hb hK hP 0 0 rfl rfl (show ¬ ((13 : Int32) < 0 ∨ 15 ≤ (13 : Int32).toNatClampNeg) by decide) dL_acts_231 ?_
        refine lv_iconst (v := (1 : Int32)) hx hb dL_acts_232 (by decide) ?_
        refine lv_iadd hx hb dL_acts_233 ?_
        refine lv_topi (fun v82 ev82 => ?_)
        replace hf := lt_e ev82 hf
        refine x_iast hx hb hK hP hD hS 0 0 rfl rfl (show ¬ ((13 : Int32) < 0 ∨ 15 ≤ (13 : Int32).toNatClampNeg) by decide) dL_acts_234 (fun Z83 H locs eZ83 hP hD hS => ?_)
        replace hf := lt_e eZ83 hf
        have hP : va_P D vwCl ([(bg, .inl (cI, 15, .inl Z83)), (bu, .inl (cI, 8, .inl vu_149)), (bh, .inl (cI, 12, .inl Z81)), (bc, .inl (cI, 64, .inl vc_149)), (be, .inl (cI, 64, .inl ve_149)), (bt, .inl (cI, 36, .inl vt_149)), (bx, .inl (cI, 48, .inl vx_149))] ++ w) H := hP
        have hD : va_D AA ([(bg, .inl (cI, 15, .inl Z83)), (bu, .inl (cI, 8, .inl vu_149)), (bh, .inl (cI, 12, .inl Z81)), (bc, .inl (cI, 64, .inl vc_149)), (be, .inl (cI, 64, .inl ve_149)), (bt, .inl (cI, 36, .inl vt_149)), (bx, .inl (cI, 48, .inl vx_149))] ++ w) := hD
        exact J235 y11_149 y12_149 Z83 vu_149 Z81 vc_149 ve_149 vt_149 vx_149 og_149 w H locs hT hP hD hS ls (lv_sub hl [0, 1, 2, 3, 4] rfl) hf
      · replace hf := ie hc77 hf
        refine lv_aload_n hx hb dL_acts_187 rfl (lv_at hl 2 rfl) ?_
        refine lv_iconst (v := (2 : Int32)) hx hb dL_acts_188 (by decide) ?_
        refine lv_aload_n hx hb dL_acts_189 rfl (lv_at hl 1 rfl) ?_
        refine lv_bipush (v := (13 : Int32)) hx hb dL_acts_190 (by decide) ?_
        refine va_iald hx hb hK hP 0 0 rfl rfl (show ¬ ((13 : Int32) < 0 ∨ 15 ≤ (13 : Int32).toNatClampNeg) by decide) dL_acts_192 ?_
        refine lv_imul hx hb dL_acts_193 ?_
        refine lv_iconst (v := (1 : Int32)) hx hb dL_acts_194 (by decide) ?_
        refine lv_isub hx hb dL_acts_195 ?_
        refine lv_topi (fun v84 ev84 => ?_)
        replace hf := lt_e ev84 hf
        refine lv_dup2_11 hx hb dL_acts_196 rfl rfl ?_
        obtain ⟨hg85, hf⟩ := gd_s hf
        refine va_iald hx hb hK hP 2 0 rfl rfl hg85 dL_acts_197 ?_
        refine lv_iload hx hb dL_acts_198 (lv_at hl 4 rfl) ?_
        refine lv_iadd hx hb dL_acts_200 ?_
        refine lv_topi (fun v86 ev86 => ?_)
        replace hf := lt_e ev86 hf
        obtain ⟨hg87, hf⟩ := gd_s hf
        refine x_iast hx hb hK hP hD hS 2 0 rfl rfl hg87 dL_acts_201 (fun Z88 H locs eZ88 hP hD hS => ?_)
        replace hf := lt_e eZ88 hf
        have hP : va_P D vwCl ([(bg, .inl (cI, 15, .inl vg_149)), (bu, .inl (cI, 8, .inl vu_149)), (bh, .inl (cI, 12, .inl Z88)), (bc, .inl (cI, 64, .inl vc_149)), (be, .inl (cI, 64, .inl ve_149)), (bt, .inl (cI, 36, .inl vt_149)), (bx, .inl (cI, 48, .inl vx_149))] ++ w) H := hP
        have hD : va_D AA ([(bg, .inl (cI, 15, .inl vg_149)), (bu, .inl (cI, 8, .inl vu_149)), (bh, .inl (cI, 12, .inl Z88)), (bc, .inl (cI, 64, .inl vc_149)), (be, .inl (cI, 64, .inl ve_149)), (bt, .inl (cI, 36, .inl vt_149)), (bx, .inl (cI, 48, .inl vx_149))] ++ w) := hD
        refine lv_goto (tgt := 235) hx hb dL_acts_202 (by decide) ?_
        exact J235 y11_149 y12_149 vg_149 vu_149 Z88 vc_149 ve_149 vt_149 vx_149 og_149 w H locs hT hP hD hS ls (lv_sub hl [0, 1, 2, 3, 4] rfl) hf
    · replace hf := ie hc76 hf
      exact J163 y11_149 y12_149 vg_149 vu_149 vh_149 vc_149 ve_149 vt_149 vx_149 og_149 w H locs hT hP hD hS ls (lv_sub hl [0, 3, 4] rfl) hf
  have J133 : ∀ (y11_133 : Int32) (y12_133 : Int32) (z0_133 : Int32) (vg_133 : Nat → Int32) (vu_133 : Nat → Int32) (vh_133 : Nat → Int32) (vc_133 : Nat → Int32) (ve_133 : Nat → Int32) (vt_133 : Nat → Int32) (vx_133 : Nat → Int32) (og_133 : Sp) (w : va_W) (H : Heap) (locs : List Loc), OB cI cC t0 w0 og_133 w → va_P D vwCl ([(bg, .inl (cI, 15, .inl vg_133)), (bu, .inl (cI, 8, .inl vu_133)), (bh, .inl (cI, 12, .inl vh_133)), (bc, .inl (cI, 64, .inl vc_133)), (be, .inl (cI, 64, .inl ve_133)), (bt, .inl (cI, 36, .inl vt_133)), (bx, .inl (cI, 48, .inl vx_133))] ++ w) H → va_D AA ([(bg, .inl (cI, 15, .inl vg_133)), (bu, .inl (cI, 8, .inl vu_133)), (bh, .inl (cI, 12, .inl vh_133)), (bc, .inl (cI, 64, .inl vc_133)), (be, .inl (cI, 64, .inl ve_133)), (bt, .inl (cI, 36, .inl vt_133)), (bx, .inl (cI, 48, .inl vx_133))] ++ w) → va_S AA s.heap H locs → ∀ ls : Array Slot, lv_has ls 14 [(0, .ref t0), (1, .ref bg), (3, .ref bh), (11, .int y11_133), (12, .int y12_133)] → f_L_acts_J133 y11_133 y12_133 z0_133 vg_133 vu_133 vh_133 vc_133 ve_133 vt_133 vx_133 og_133 = some R → W p l e rmL_acts s m args below meth c H locs 0 0 Q (F0 m 133 ls [.int z0_133]) := by
    intro y11_133 y12_133 z0_133 vg_133 vu_133 vh_133 vc_133 ve_133 vt_133 vx_133 og_133 w H locs hT hP hD hS ls hl hf
    rw [f_L_acts_J133] at hf
    refine lv_istore (lv' := [(13, .int z0_133), (0, .ref t0), (1, .ref bg), (3, .ref bh), (11, .int y11_133), (12, .int y12_133)]) hx hb dL_acts_133 hl (by decide) rfl (fun ls hl => ?_)
    refine lv_iload hx hb dL_acts_135 (lv_at hl 0 rfl) ?_
    refine lv_if_ne (tgt := 149) hx hb dL_acts_137 (by decide) (fun hc73 => ?_) (fun hc73 => ?_)
    · replace hf := ie hc73 hf
      exact J149 y11_133 y12_133 z0_133 vg_133 vu_133 vh_133 vc_133 ve_133 vt_133 vx_133 og_133 w H locs hT hP hD hS ls (lv_sub hl [1, 2, 3, 4, 5, 0] rfl) hf
    · replace hf := it hc73 hf
      refine lv_aload_n hx hb dL_acts_140 rfl (lv_at hl 2 rfl) ?_
      refine lv_bipush (v := (13 : Int32)) hx hb dL_acts_141 (by decide) ?_
      refine va_iald hx hb hK hP 0 0 rfl rfl (show ¬ ((13 : Int32) < 0 ∨ 15 ≤ (13 : Int32).toNatClampNeg) by decide) dL_acts_143 ?_
      refine lv_bipush (v := (6 : Int32)) hx hb dL_acts_144 (by decide) ?_
      refine lv_icmp_eq (tgt := 163) hx hb dL_acts_146 (by decide) (fun hc74 => ?_) (fun hc74 => ?_)
      · replace hf := it hc74 hf
        exact J163 y11_133 y12_133 vg_133 vu_133 vh_133 vc_133 ve_133 vt_133 vx_133 og_133 w H locs hT hP hD hS ls (lv_sub hl [1, 4, 5] rfl) hf
      · replace hf := ie hc74 hf
        exact J149 y11_133 y12_133 z0_133 vg_133 vu_133 vh_133 vc_133 ve_133 vt_133 vx_133 og_133 w H locs hT hP hD hS ls (lv_sub hl [1, 2, 3, 4, 5, 0] rfl) hf
  have J132 : ∀ (y11_132 : Int32) (y12_132 : Int32) (vg_132 : Nat → Int32) (vu_132 : Nat → Int32) (vh_132 : Nat → Int32) (vc_132 : Nat → Int32) (ve_132 : Nat → Int32) (vt_132 : Nat → Int32) (vx_132 : Nat → Int32) (og_132 : Sp) (w : va_W) (H : Heap) (locs : List Loc), OB cI cC t0 w0 og_132 w → va_P D vwCl ([(bg, .inl (cI, 15, .inl vg_132)), (bu, .inl (cI, 8, .inl vu_132)), (bh, .inl (cI, 12, .inl vh_132)), (bc, .inl (cI, 64, .inl vc_132)), (be, .inl (cI, 64, .inl ve_132)), (bt, .inl (cI, 36, .inl vt_132)), (bx, .inl (cI, 48, .inl vx_132))] ++ w) H → va_D AA ([(bg, .inl (cI, 15, .inl vg_132)), (bu, .inl (cI, 8, .inl vu_132)), (bh, .inl (cI, 12, .inl vh_132)), (bc, .inl (cI, 64, .inl vc_132)), (be, .inl (cI, 64, .inl ve_132)), (bt, .inl (cI, 36, .inl vt_132)), (bx, .inl (cI, 48, .inl vx_132))] ++ w) → va_S AA s.heap H locs → ∀ ls : Array Slot, lv_has ls 14 [(0, .ref t0), (1, .ref bg), (3, .ref bh), (11, .int y11_132), (12, .int y12_132)] → f_L_acts_J132 y11_132 y12_132 vg_132 vu_132 vh_132 vc_132 ve_132 vt_132 vx_132 og_132 = some R → W p l e rmL_acts s m args below meth c H locs 0 0 Q (F0 m 132 ls []) := by
    intro y11_132 y12_132 vg_132 vu_132 vh_132 vc_132 ve_132 vt_132 vx_132 og_132 w H locs hT hP hD hS ls hl hf
    rw [f_L_acts_J132] at hf
    refine lv_iconst (v := (0 : Int32)) hx hb dL_acts_132 (by decide) ?_
    exact J133 y11_132 y12_132 (0 : Int32) vg_132 vu_132 vh_132 vc_132 ve_132 vt_132 vx_132 og_132 w H locs hT hP hD hS ls (lv_sub hl [0, 1, 2, 3, 4] rfl) hf
  have J102 : ∀ (y11_102 : Int32) (z0_102 : Int32) (z1_102 : Int32) (z2_102 : Int32) (vg_102 : Nat → Int32) (vu_102 : Nat → Int32) (vh_102 : Nat → Int32) (vc_102 : Nat → Int32) (ve_102 : Nat → Int32) (vt_102 : Nat → Int32) (vx_102 : Nat → Int32) (og_102 : Sp) (w : va_W) (H : Heap) (locs : List Loc), OB cI cC t0 w0 og_102 w → va_P D vwCl ([(bg, .inl (cI, 15, .inl vg_102)), (bu, .inl (cI, 8, .inl vu_102)), (bh, .inl (cI, 12, .inl vh_102)), (bc, .inl (cI, 64, .inl vc_102)), (be, .inl (cI, 64, .inl ve_102)), (bt, .inl (cI, 36, .inl vt_102)), (bx, .inl (cI, 48, .inl vx_102))] ++ w) H → va_D AA ([(bg, .inl (cI, 15, .inl vg_102)), (bu, .inl (cI, 8, .inl vu_102)), (bh, .inl (cI, 12, .inl vh_102)), (bc, .inl (cI, 64, .inl vc_102)), (be, .inl (cI, 64, .inl ve_102)), (bt, .inl (cI, 36, .inl vt_102)), (bx, .inl (cI, 48, .inl vx_102))] ++ w) → va_S AA s.heap H locs → ∀ ls : Array Slot, lv_has ls 14 [(0, .ref t0), (1, .ref bg), (3, .ref bh), (11, .int y11_102)] → f_L_acts_J102 y11_102 z0_102 z1_102 z2_102 vg_102 vu_102 vh_102 vc_102 ve_102 vt_102 vx_102 og_102 = some R → W p l e rmL_acts s m args below meth c H locs 0 0 Q (F0 m 102 ls [.int z0_102, .int z1_102, .int z2_102]) := by
    intro y11_102 z0_102 z1_102 z2_102 vg_102 vu_102 vh_102 vc_102 ve_102 vt_102 vx_102 og_102 w H locs hT hP hD hS ls hl hf
    rw [f_L_acts_J102] at hf
    obtain ⟨hg68, hf⟩ := gd_s hf
    refine lv_irem hx hb dL_acts_102 hg68 ?_
    refine lv_iadd hx hb dL_acts_103 ?_
    refine lv_topi (fun v69 ev69 => ?_)
    replace hf := lt_e ev69 hf
    refine lv_istore (lv' := [(12, .int v69), (0, .ref t0), (1, .ref bg), (3, .ref bh), (11, .int y11_102)]) hx hb dL_acts_104 hl (by decide) rfl (fun ls hl => ?_)
    refine lv_aload_n hx hb dL_acts_106 rfl (lv_at hl 2 rfl) ?_
    refine lv_bipush (v := (13 : Int32)) hx hb dL_acts_107 (by decide) ?_
    refine va_iald hx hb hK hP 0 0 rfl rfl (show ¬ ((13 : Int32) < 0 ∨ 15 ≤ (13 : Int32).toNatClampNeg) by decide) dL_acts_109 ?_
    refine lv_if_le (tgt := 132) hx hb dL_acts_110 (by decide) (fun hc70 => ?_) (fun hc70 => ?_)
    · replace hf := it hc70 hf
      exact J132 y11_102 v69 vg_102 vu_102 vh_102 vc_102 ve_102 vt_102 vx_102 og_102 w H locs hT hP hD hS ls (lv_sub hl [1, 2, 3, 4, 0] rfl) hf
    · replace hf := ie hc70 hf
      refine lv_aload_n hx hb dL_acts_113 rfl (lv_at hl 3 rfl) ?_
      refine lv_iconst (v := (2 : Int32)) hx hb dL_acts_114 (by decide) ?_
      refine lv_aload_n hx hb dL_acts_115 rfl (lv_at hl 2 rfl) ?_
      refine lv_bipush (v := (13 : Int32)) hx hb dL_acts_116 (by decide) ?_
      refine va_iald hx hb hK hP 0 0 rfl rfl (show ¬ ((13 : Int32) < 0 ∨ 15 ≤ (13 : Int32).toNatClampNeg) by decide) dL_acts_118 ?_
      refine lv_imul hx hb dL_acts_119 ?_
      refine lv_iconst (v := (2 : Int32)) hx hb dL_acts_120 (by decide) ?_
      refine lv_isub hx hb dL_acts_121 ?_
      obtain ⟨hg71, hf⟩ := gd_s hf
      refine va_iald hx hb hK hP 2 0 rfl rfl hg71 dL_acts_122 ?_
      refine lv_iload hx hb dL_acts_123 (lv_at hl 4 rfl) ?_
      refine lv_icmp_ne (tgt := 132) hx hb dL_acts_125 (by decide) (fun hc72 => ?_) (fun hc72 => ?_)
      · replace hf := ie hc72 hf
        exact J132 y11_102 v69 vg_102 vu_102 vh_102 vc_102 ve_102 vt_102 vx_102 og_102 w H locs hT hP hD hS ls (lv_sub hl [1, 2, 3, 4, 0] rfl) hf
      · replace hf := it hc72 hf
        refine lv_iconst (v := (1 : Int32)) hx hb dL_acts_128 (by decide) ?_
        refine lv_goto (tgt := 133) hx hb dL_acts_129 (by decide) ?_
        exact J133 y11_102 v69 (1 : Int32) vg_102 vu_102 vh_102 vc_102 ve_102 vt_102 vx_102 og_102 w H locs hT hP hD hS ls (lv_sub hl [1, 2, 3, 4, 0] rfl) hf
  rw [f_L_acts] at hf
  obtain ⟨H, hH⟩ : ∃ z : Heap, z = s.heap := ⟨_, rfl⟩
  obtain ⟨locs, hL⟩ : ∃ z : List Loc, z = [] := ⟨_, rfl⟩
  replace hP := hH ▸ hP
  replace hS : va_S AA s.heap H locs := by rw [hH, hL]; exact hS
  suffices hgoal : W p l e rmL_acts s m args below meth c H locs 0 0 Q (F0 m 0 ls []) by rw [hH, hL] at hgoal; exact hgoal
  clear hH hL
  refine lv_iload hx hb dL_acts_0 (lv_at hl 8 rfl) ?_
  refine lv_iconst (v := (5 : Int32)) hx hb dL_acts_2 (by decide) ?_
  refine lv_ishr hx hb dL_acts_3 ?_
  refine lv_ldc hx hb hown k1_ dL_acts_4 ?_
  obtain ⟨q1, hq1, hf⟩ := ob hf
  refine cl_RSL (X0 := [(bg, .inl (cI, 15, .inl vg)), (bu, .inl (cI, 8, .inl vu)), (bh, .inl (cI, 12, .inl vh)), (bc, .inl (cI, 64, .inl vc)), (be, .inl (cI, 64, .inl ve)), (bt, .inl (cI, 36, .inl vt)), (bx, .inl (cI, 48, .inl vx))]) (As := [.int (x8 >>> ((5 : Int32) &&& 31)), .int (10000000 : Int32)]) (rest := []) hF hP hD (c_L_low (x8 >>> ((5 : Int32) &&& 31)) (10000000 : Int32) q1 hq1) (va_cwS 2 hts gL_acts_L_low rfl rfl rfl (by decide +kernel) ⟨(Nat.le_of_ble_eq_true rfl), (Nat.le_of_ble_eq_true rfl)⟩) [] rfl (by decide +kernel) rfl rfl hl.1 (Nat.le_of_ble_eq_true rfl) dL_acts_6 ⟨Nat.zero_le _, Nat.zero_le _⟩ ?_
  refine lv_istore (lv' := [(9, .int q1), (0, .ref t0), (1, .ref bg), (2, .ref bu), (3, .ref bh), (4, .ref bc), (5, .ref be), (6, .ref bt), (7, .ref bx), (8, .int x8)]) hx hb dL_acts_9 hl (by decide) rfl (fun ls hl => ?_)
  refine lv_iload hx hb dL_acts_11 (lv_at hl 9 rfl) ?_
  refine lv_bipush (v := (24 : Int32)) hx hb dL_acts_13 (by decide) ?_
  obtain ⟨q2, hq2, hf⟩ := ob hf
  refine cl_RSL (X0 := [(bg, .inl (cI, 15, .inl vg)), (bu, .inl (cI, 8, .inl vu)), (bh, .inl (cI, 12, .inl vh)), (bc, .inl (cI, 64, .inl vc)), (be, .inl (cI, 64, .inl ve)), (bt, .inl (cI, 36, .inl vt)), (bx, .inl (cI, 48, .inl vx))]) (As := [.int x8, .int (24 : Int32)]) (rest := []) hF hP hD (c_L_low x8 (24 : Int32) q2 hq2) (va_cwS 2 hts gL_acts_L_low rfl rfl rfl (by decide +kernel) ⟨(Nat.le_of_ble_eq_true rfl), (Nat.le_of_ble_eq_true rfl)⟩) [] rfl (by decide +kernel) rfl rfl hl.1 (Nat.le_of_ble_eq_true rfl) dL_acts_15 ⟨Nat.zero_le _, Nat.zero_le _⟩ ?_
  refine lv_istore (lv' := [(10, .int q2), (9, .int q1), (0, .ref t0), (1, .ref bg), (2, .ref bu), (3, .ref bh), (4, .ref bc), (5, .ref be), (6, .ref bt), (7, .ref bx), (8, .int x8)]) hx hb dL_acts_18 hl (by decide) rfl (fun ls hl => ?_)
  refine lv_aload hx hb dL_acts_20 (lv_at hl 7 rfl) ?_
  refine lv_iconst (v := (0 : Int32)) hx hb dL_acts_22 (by decide) ?_
  refine va_iald hx hb hK hP 4 0 rfl rfl (show ¬ ((0 : Int32) < 0 ∨ 64 ≤ (0 : Int32).toNatClampNeg) by decide) dL_acts_23 ?_
  refine lv_aload hx hb dL_acts_24 (lv_at hl 6 rfl) ?_
  refine lv_iconst (v := (0 : Int32)) hx hb dL_acts_26 (by decide) ?_
  refine va_iald hx hb hK hP 3 0 rfl rfl (show ¬ ((0 : Int32) < 0 ∨ 64 ≤ (0 : Int32).toNatClampNeg) by decide) dL_acts_27 ?_
  refine lv_iadd hx hb dL_acts_28 ?_
  refine lv_bipush (v := (46 : Int32)) hx hb dL_acts_29 (by decide) ?_
  refine lv_icmp_le (tgt := 68) hx hb dL_acts_31 (by decide) (fun hc3 => ?_) (fun hc3 => ?_)
  · replace hf := it hc3 hf
    refine lv_iload hx hb dL_acts_68 (lv_at hl 0 rfl) ?_
    refine lv_bipush (v := (6 : Int32)) hx hb dL_acts_70 (by decide) ?_
    refine lv_icmp_ge (tgt := 265) hx hb dL_acts_72 (by decide) (fun hc4 => ?_) (fun hc4 => ?_)
    · replace hf := it hc4 hf
      refine lv_iload hx hb dL_acts_265 (lv_at hl 0 rfl) ?_
      refine lv_bipush (v := (14 : Int32)) hx hb dL_acts_267 (by decide) ?_
      refine lv_icmp_ge (tgt := 387) hx hb dL_acts_269 (by decide) (fun hc5 => ?_) (fun hc5 => ?_)
      · replace hf := it hc5 hf
        refine lv_iload hx hb dL_acts_387 (lv_at hl 0 rfl) ?_
        refine lv_bipush (v := (17 : Int32)) hx hb dL_acts_389 (by decide) ?_
        refine lv_icmp_ge (tgt := 407) hx hb dL_acts_391 (by decide) (fun hc6 => ?_) (fun hc6 => ?_)
        · replace hf := it hc6 hf
          refine lv_iload hx hb dL_acts_407 (lv_at hl 0 rfl) ?_
          refine lv_bipush (v := (17 : Int32)) hx hb dL_acts_409 (by decide) ?_
          refine lv_icmp_ne (tgt := 422) hx hb dL_acts_411 (by decide) (fun hc7 => ?_) (fun hc7 => ?_)
          · replace hf := ie hc7 hf
            refine lv_iload hx hb dL_acts_422 (lv_at hl 0 rfl) ?_
            refine lv_bipush (v := (18 : Int32)) hx hb dL_acts_424 (by decide) ?_
            refine lv_icmp_ne (tgt := 481) hx hb dL_acts_426 (by decide) (fun hc8 => ?_) (fun hc8 => ?_)
            · replace hf := ie hc8 hf
              refine lv_iload hx hb dL_acts_481 (lv_at hl 0 rfl) ?_
              refine lv_bipush (v := (21 : Int32)) hx hb dL_acts_483 (by decide) ?_
              refine lv_icmp_ge (tgt := 532) hx hb dL_acts_485 (by decide) (fun hc9 => ?_) (fun hc9 => ?_)
              · replace hf := it hc9 hf
                refine lv_iload hx hb dL_acts_532 (lv_at hl 0 rfl) ?_
                refine lv_bipush (v := (21 : Int32)) hx hb dL_acts_534 (by decide) ?_
                refine lv_icmp_ne (tgt := 603) hx hb dL_acts_536 (by decide) (fun hc10 => ?_) (fun hc10 => ?_)
                · replace hf := ie hc10 hf
                  refine lv_iload hx hb dL_acts_603 (lv_at hl 1 rfl) ?_
                  refine lv_bipush (v := (6 : Int32)) hx hb dL_acts_605 (by decide) ?_
                  refine lv_irem hx hb dL_acts_607 (by decide) ?_
                  refine lv_topi (fun v11 ev11 => ?_)
                  replace hf := lt_e ev11 hf
                  refine lv_istore (lv' := [(11, .int v11), (10, .int q2), (9, .int q1), (0, .ref t0), (1, .ref bg), (2, .ref bu), (3, .ref bh), (4, .ref bc), (5, .ref be), (6, .ref bt), (7, .ref bx), (8, .int x8)]) hx hb dL_acts_608 hl (by decide) rfl (fun ls hl => ?_)
                  refine lv_aload_n hx hb dL_acts_610 rfl (lv_at hl 4 rfl) ?_
                  refine lv_bipush (v := (7 : Int32)) hx hb dL_acts_611 (by decide) ?_
                  refine lv_iload hx hb dL_acts_613 (lv_at hl 0 rfl) ?_
                  refine lv_iadd hx hb dL_acts_615 ?_
                  obtain ⟨hg12, hf⟩ := gd_s hf
                  refine va_iald hx hb hK hP 0 0 rfl rfl hg12 dL_acts_616 ?_
                  refine lv_topi (fun v13 ev13 => ?_)
                  replace hf := lt_e ev13 hf
                  refine lv_istore (lv' := [(12, .int v13), (11, .int v11), (10, .int q2), (9, .int q1), (0, .ref t0), (1, .ref bg), (2, .ref bu), (3, .ref bh), (4, .ref bc), (5, .ref be), (6, .ref bt), (7, .ref bx), (8, .int x8)]) hx hb dL_acts_617 hl (by decide) rfl (fun ls hl => ?_)
                  refine lv_aload_n hx hb dL_acts_619 rfl (lv_at hl 5 rfl) ?_
                  refine lv_bipush (v := (7 : Int32)) hx hb dL_acts_620 (by decide) ?_
                  refine lv_iload hx hb dL_acts_622 (lv_at hl 1 rfl) ?_
                  refine lv_iadd hx hb dL_acts_624 ?_
                  refine lv_iload hx hb dL_acts_625 (lv_at hl 1 rfl) ?_
                  refine lv_if_ne (tgt := 645) hx hb dL_acts_627 (by decide) (fun hc14 => ?_) (fun hc14 => ?_)
                  · replace hf := ie hc14 hf
                    refine lv_iload hx hb dL_acts_645 (lv_at hl 1 rfl) ?_
                    refine lv_iconst (v := (1 : Int32)) hx hb dL_acts_647 (by decide) ?_
                    refine lv_icmp_ne (tgt := 663) hx hb dL_acts_648 (by decide) (fun hc15 => ?_) (fun hc15 => ?_)
                    · replace hf := ie hc15 hf
                      refine lv_iload hx hb dL_acts_663 (lv_at hl 1 rfl) ?_
                      refine lv_iconst (v := (2 : Int32)) hx hb dL_acts_665 (by decide) ?_
                      refine lv_icmp_ne (tgt := 680) hx hb dL_acts_666 (by decide) (fun hc16 => ?_) (fun hc16 => ?_)
                      · replace hf := ie hc16 hf
                        refine lv_iload hx hb dL_acts_680 (lv_at hl 1 rfl) ?_
                        refine lv_iconst (v := (5 : Int32)) hx hb dL_acts_682 (by decide) ?_
                        refine lv_icmp_ge (tgt := 701) hx hb dL_acts_683 (by decide) (fun hc17 => ?_) (fun hc17 => ?_)
                        · replace hf := it hc17 hf
                          refine lv_iload hx hb dL_acts_701 (lv_at hl 3 rfl) ?_
                          refine lv_bipush (v := (6 : Int32)) hx hb dL_acts_703 (by decide) ?_
                          refine lv_idiv hx hb dL_acts_705 (by decide) ?_
                          refine lv_iconst (v := (2 : Int32)) hx hb dL_acts_706 (by decide) ?_
                          refine lv_irem hx hb dL_acts_707 (by decide) ?_
                          exact J708 v11 v13 ((q1 / (6 : Int32)) - (q1 / (6 : Int32)) / (2 : Int32) * (2 : Int32)) ((7 : Int32) + v11) vg vu vh vc ve vt vx og w H locs hT hP hD hS ls (lv_sub hl [4, 5, 1, 0] rfl) hf
                        · replace hf := ie hc17 hf
                          refine lv_bipush (v := (30 : Int32)) hx hb dL_acts_686 (by decide) ?_
                          refine lv_iload hx hb dL_acts_688 (lv_at hl 3 rfl) ?_
                          refine lv_bipush (v := (6 : Int32)) hx hb dL_acts_690 (by decide) ?_
                          refine lv_idiv hx hb dL_acts_692 (by decide) ?_
                          refine lv_sipush (v := (271 : Int32)) hx hb dL_acts_693 (by decide) ?_
                          refine lv_irem hx hb dL_acts_696 (by decide) ?_
                          refine lv_iadd hx hb dL_acts_697 ?_
                          refine lv_goto (tgt := 708) hx hb dL_acts_698 (by decide) ?_
                          exact J708 v11 v13 ((30 : Int32) + ((q1 / (6 : Int32)) - (q1 / (6 : Int32)) / (271 : Int32) * (271 : Int32))) ((7 : Int32) + v11) vg vu vh vc ve vt vx og w H locs hT hP hD hS ls (lv_sub hl [4, 5, 1, 0] rfl) hf
                      · replace hf := it hc16 hf
                        refine lv_iload hx hb dL_acts_669 (lv_at hl 3 rfl) ?_
                        refine lv_bipush (v := (6 : Int32)) hx hb dL_acts_671 (by decide) ?_
                        refine lv_idiv hx hb dL_acts_673 (by decide) ?_
                        refine lv_bipush (v := (101 : Int32)) hx hb dL_acts_674 (by decide) ?_
                        refine lv_irem hx hb dL_acts_676 (by decide) ?_
                        refine lv_goto (tgt := 708) hx hb dL_acts_677 (by decide) ?_
                        exact J708 v11 v13 ((q1 / (6 : Int32)) - (q1 / (6 : Int32)) / (101 : Int32) * (101 : Int32)) ((7 : Int32) + v11) vg vu vh vc ve vt vx og w H locs hT hP hD hS ls (lv_sub hl [4, 5, 1, 0] rfl) hf
                    · replace hf := it hc15 hf
                      refine lv_iload hx hb dL_acts_651 (lv_at hl 3 rfl) ?_
                      refine lv_bipush (v := (6 : Int32)) hx hb dL_acts_653 (by decide) ?_
                      refine lv_idiv hx hb dL_acts_655 (by decide) ?_
                      refine lv_sipush (v := (201 : Int32)) hx hb dL_acts_656 (by decide) ?_
                      refine lv_irem hx hb dL_acts_659 (by decide) ?_
                      refine lv_goto (tgt := 708) hx hb dL_acts_660 (by decide) ?_
                      exact J708 v11 v13 ((q1 / (6 : Int32)) - (q1 / (6 : Int32)) / (201 : Int32) * (201 : Int32)) ((7 : Int32) + v11) vg vu vh vc ve vt vx og w H locs hT hP hD hS ls (lv_sub hl [4, 5, 1, 0] rfl) hf
                  · replace hf := it hc14 hf
                    refine lv_bipush (v := (100 : Int32)) hx hb dL_acts_630 (by decide) ?_
                    refine lv_iload hx hb dL_acts_632 (lv_at hl 3 rfl) ?_
                    refine lv_bipush (v := (6 : Int32)) hx hb dL_acts_634 (by decide) ?_
                    refine lv_idiv hx hb dL_acts_636 (by decide) ?_
                    refine lv_sipush (v := (501 : Int32)) hx hb dL_acts_637 (by decide) ?_
                    refine lv_irem hx hb dL_acts_640 (by decide) ?_
                    refine lv_iadd hx hb dL_acts_641 ?_
                    refine lv_goto (tgt := 708) hx hb dL_acts_642 (by decide) ?_
                    exact J708 v11 v13 ((100 : Int32) + ((q1 / (6 : Int32)) - (q1 / (6 : Int32)) / (501 : Int32) * (501 : Int32))) ((7 : Int32) + v11) vg vu vh vc ve vt vx og w H locs hT hP hD hS ls (lv_sub hl [4, 5, 1, 0] rfl) hf
                · replace hf := it hc10 hf
                  refine lv_aload_n hx hb dL_acts_539 rfl (lv_at hl 3 rfl) ?_
                  refine lv_bipush (v := (14 : Int32)) hx hb dL_acts_540 (by decide) ?_
                  refine va_iald hx hb hK hP 0 0 rfl rfl (show ¬ ((14 : Int32) < 0 ∨ 15 ≤ (14 : Int32).toNatClampNeg) by decide) dL_acts_542 ?_
                  refine lv_if_ne (tgt := 565) hx hb dL_acts_543 (by decide) (fun hc18 => ?_) (fun hc18 => ?_)
                  · replace hf := ie hc18 hf
                    refine lv_aload_n hx hb dL_acts_565 rfl (lv_at hl 3 rfl) ?_
                    refine lv_aload_n hx hb dL_acts_566 rfl (lv_at hl 4 rfl) ?_
                    refine lv_iload hx hb dL_acts_567 (lv_at hl 1 rfl) ?_
                    refine lv_iconst (v := (2 : Int32)) hx hb dL_acts_569 (by decide) ?_
                    refine lv_irem hx hb dL_acts_570 (by decide) ?_
                    refine lv_aload hx hb dL_acts_571 (lv_at hl 8 rfl) ?_
                    refine lv_iconst (v := (1 : Int32)) hx hb dL_acts_573 (by decide) ?_
                    refine va_iald hx hb hK hP 5 0 rfl rfl (show ¬ ((1 : Int32) < 0 ∨ 36 ≤ (1 : Int32).toNatClampNeg) by decide) dL_acts_574 ?_
                    obtain ⟨q19, hq19, hf⟩ := ob hf
                    refine cl_VSL (X0 := [(bg, .inl (cI, 15, .inl vg)), (bu, .inl (cI, 8, .inl vu)), (bh, .inl (cI, 12, .inl vh)), (bc, .inl (cI, 64, .inl vc)), (be, .inl (cI, 64, .inl ve)), (bt, .inl (cI, 36, .inl vt)), (bx, .inl (cI, 48, .inl vx))]) (X1 := [(bg, .inl (cI, 15, .inl vg)), (bu, .inl (cI, 8, .inl q19)), (bh, .inl (cI, 12, .inl vh)), (bc, .inl (cI, 64, .inl vc)), (be, .inl (cI, 64, .inl ve)), (bt, .inl (cI, 36, .inl vt)), (bx, .inl (cI, 48, .inl vx))]) (As := [.ref bg, .ref bu, .int (q1 - q1 / (2 : Int32) * (2 : Int32)), .int (vt (1 : Int32).toNatClampNeg)]) (rest := []) hF hP hD hS (c_L_correct bg bu (q1 - q1 / (2 : Int32) * (2 : Int32)) (vt (1 : Int32).toNatClampNeg) vg vu q19 hq19) (va_cwS 4 hts gL_acts_L_correct rfl rfl rfl (by decide +kernel) ⟨(Nat.le_of_ble_eq_true rfl), (Nat.le_of_ble_eq_true rfl)⟩) [0, 1] rfl (by decide +kernel) rfl rfl hl.1 (Nat.le_of_ble_eq_true rfl) dL_acts_575 ⟨Nat.zero_le _, Nat.zero_le _⟩ (hA2 [bg, bu] rfl rfl) [2, 3, 4, 5, 6] rfl [(bh, .inl (cI, 12, .inl vh)), (bc, .inl (cI, 64, .inl vc)), (be, .inl (cI, 64, .inl ve)), (bt, .inl (cI, 36, .inl vt)), (bx, .inl (cI, 48, .inl vx))] rfl rfl (nX := 7) rfl rfl (by decide +kernel) (fun H locs hP hD hS => ?_)
                    refine lv_aload_n hx hb dL_acts_578 rfl (lv_at hl 2 rfl) ?_
                    refine lv_iload hx hb dL_acts_579 (lv_at hl 1 rfl) ?_
                    refine lv_iconst (v := (2 : Int32)) hx hb dL_acts_581 (by decide) ?_
                    refine lv_irem hx hb dL_acts_582 (by decide) ?_
                    obtain ⟨q20, hq20, hf⟩ := ob hf
                    refine cl_WO (As := [.int (q1 - q1 / (2 : Int32) * (2 : Int32))]) (rest := []) hF hP hD hS (oo_correct hT (q1 - q1 / (2 : Int32) * (2 : Int32)) q20 hq20) (cwV 1 hts gL_acts_X7_correct rfl rfl rfl (by decide +kernel) ⟨(Nat.le_of_ble_eq_true rfl), (Nat.le_of_ble_eq_true rfl)⟩) rfl rfl hl.1 (Nat.le_of_ble_eq_true rfl) dL_acts_583 ⟨Nat.zero_le _, Nat.zero_le _⟩ (fun w H locs hT hP hD hS => ?_)
                    refine lv_aload_n hx hb dL_acts_586 rfl (lv_at hl 4 rfl) ?_
                    refine lv_iconst (v := (4 : Int32)) hx hb dL_acts_587 (by decide) ?_
                    refine lv_iload hx hb dL_acts_588 (lv_at hl 1 rfl) ?_
                    refine lv_iconst (v := (2 : Int32)) hx hb dL_acts_590 (by decide) ?_
                    refine lv_irem hx hb dL_acts_591 (by decide) ?_
                    refine lv_imul hx hb dL_acts_592 ?_
                    obtain ⟨hg21, hf⟩ := gd_s hf
                    refine va_iald hx hb hK hP 1 0 rfl rfl hg21 dL_acts_593 ?_
                    refine lv_icmp_ne (tgt := 601) hx hb dL_acts_594 (by decide) (fun hc22 => ?_) (fun hc22 => ?_)
                    · replace hf := ie hc22 hf
                      refine lv_iconst (v := (0 : Int32)) hx hb dL_acts_601 (by decide) ?_
                      obtain rfl := Option.some.inj hf
                      exact ret 602 ls _ w H locs dL_acts_602 (by decide) rfl hT hP hS
                    · replace hf := it hc22 hf
                      refine lv_iconst (v := (1 : Int32)) hx hb dL_acts_597 (by decide) ?_
                      refine lv_goto (tgt := 602) hx hb dL_acts_598 (by decide) ?_
                      obtain rfl := Option.some.inj hf
                      exact ret 602 ls _ w H locs dL_acts_602 (by decide) rfl hT hP hS
                  · replace hf := it hc18 hf
                    refine lv_aload_n hx hb dL_acts_546 rfl (lv_at hl 2 rfl) ?_
                    refine lv_iload hx hb dL_acts_547 (lv_at hl 1 rfl) ?_
                    refine lv_iconst (v := (2 : Int32)) hx hb dL_acts_549 (by decide) ?_
                    refine lv_irem hx hb dL_acts_550 (by decide) ?_
                    obtain ⟨q23, hq23, hf⟩ := ob hf
                    refine cl_WO (As := [.int (q1 - q1 / (2 : Int32) * (2 : Int32))]) (rest := []) hF hP hD hS (oo_correct hT (q1 - q1 / (2 : Int32) * (2 : Int32)) q23 hq23) (cwV 1 hts gL_acts_X7_correct rfl rfl rfl (by decide +kernel) ⟨(Nat.le_of_ble_eq_true rfl), (Nat.le_of_ble_eq_true rfl)⟩) rfl rfl hl.1 (Nat.le_of_ble_eq_true rfl) dL_acts_551 ⟨Nat.zero_le _, Nat.zero_le _⟩ (fun w H locs hT hP hD hS => ?_)
                    refine lv_ldc hx hb hown k3_ dL_acts_554 ?_
                    refine lv_icmp_ne (tgt := 563) hx hb dL_acts_556 (by decide) (fun hc24 => ?_) (fun hc24 => ?_)
                    · replace hf := ie hc24 hf
                      refine lv_iconst (v := (0 : Int32)) hx hb dL_acts_563 (by decide) ?_
                      obtain rfl := Option.some.inj hf
                      exact ret 564 ls _ w H locs dL_acts_564 (by decide) rfl hT hP hS
                    · replace hf := it hc24 hf
                      refine lv_iconst (v := (1 : Int32)) hx hb dL_acts_559 (by decide) ?_
                      refine lv_goto (tgt := 564) hx hb dL_acts_560 (by decide) ?_
                      obtain rfl := Option.some.inj hf
                      exact ret 564 ls _ w H locs dL_acts_564 (by decide) rfl hT hP hS
              · replace hf := ie hc9 hf
                refine lv_iconst (v := (1 : Int32)) hx hb dL_acts_488 (by decide) ?_
                refine lv_iload hx hb dL_acts_489 (lv_at hl 1 rfl) ?_
                refine lv_iload hx hb dL_acts_491 (lv_at hl 1 rfl) ?_
                refine lv_iconst (v := (4 : Int32)) hx hb dL_acts_493 (by decide) ?_
                refine lv_irem hx hb dL_acts_494 (by decide) ?_
                refine lv_if_ne (tgt := 504) hx hb dL_acts_495 (by decide) (fun hc25 => ?_) (fun hc25 => ?_)
                · replace hf := ie hc25 hf
                  refine lv_bipush (v := (40 : Int32)) hx hb dL_acts_504 (by decide) ?_
                  exact J506 (40 : Int32) q1 (1 : Int32) vg vu vh vc ve vt vx og w H locs hT hP hD hS ls (lv_sub hl [2, 3, 4] rfl) hf
                · replace hf := it hc25 hf
                  refine lv_sipush (v := (999 : Int32)) hx hb dL_acts_498 (by decide) ?_
                  refine lv_goto (tgt := 506) hx hb dL_acts_501 (by decide) ?_
                  exact J506 (999 : Int32) q1 (1 : Int32) vg vu vh vc ve vt vx og w H locs hT hP hD hS ls (lv_sub hl [2, 3, 4] rfl) hf
            · replace hf := it hc8 hf
              refine lv_iload hx hb dL_acts_429 (lv_at hl 1 rfl) ?_
              refine lv_iconst (v := (2 : Int32)) hx hb dL_acts_431 (by decide) ?_
              refine lv_irem hx hb dL_acts_432 (by decide) ?_
              refine lv_topi (fun v26 ev26 => ?_)
              replace hf := lt_e ev26 hf
              refine lv_istore (lv' := [(11, .int v26), (10, .int q2), (9, .int q1), (0, .ref t0), (1, .ref bg), (2, .ref bu), (3, .ref bh), (4, .ref bc), (5, .ref be), (6, .ref bt), (7, .ref bx), (8, .int x8)]) hx hb dL_acts_433 hl (by decide) rfl (fun ls hl => ?_)
              refine lv_aload_n hx hb dL_acts_435 rfl (lv_at hl 5 rfl) ?_
              refine lv_iconst (v := (4 : Int32)) hx hb dL_acts_436 (by decide) ?_
              refine lv_iload hx hb dL_acts_437 (lv_at hl 0 rfl) ?_
              refine lv_imul hx hb dL_acts_439 ?_
              obtain ⟨hg27, hf⟩ := gd_s hf
              refine va_iald hx hb hK hP 1 0 rfl rfl hg27 dL_acts_440 ?_
              refine lv_topi (fun v28 ev28 => ?_)
              replace hf := lt_e ev28 hf
              refine lv_istore (lv' := [(12, .int v28), (11, .int v26), (10, .int q2), (9, .int q1), (0, .ref t0), (1, .ref bg), (2, .ref bu), (3, .ref bh), (4, .ref bc), (5, .ref be), (6, .ref bt), (7, .ref bx), (8, .int x8)]) hx hb dL_acts_441 hl (by decide) rfl (fun ls hl => ?_)
              refine lv_aload_n hx hb dL_acts_443 rfl (lv_at hl 6 rfl) ?_
              refine lv_iconst (v := (4 : Int32)) hx hb dL_acts_444 (by decide) ?_
              refine lv_iload hx hb dL_acts_445 (lv_at hl 1 rfl) ?_
              refine lv_imul hx hb dL_acts_447 ?_
              refine lv_iconst (v := (1 : Int32)) hx hb dL_acts_448 (by decide) ?_
              refine lv_iload hx hb dL_acts_449 (lv_at hl 3 rfl) ?_
              refine lv_iconst (v := (2 : Int32)) hx hb dL_acts_451 (by decide) ?_
              refine lv_idiv hx hb dL_acts_452 (by decide) ?_
              refine lv_bipush (v := (60 : Int32)) hx hb dL_acts_453 (by decide) ?_
              refine lv_irem hx hb dL_acts_455 (by decide) ?_
              refine lv_iadd hx hb dL_acts_456 ?_
              refine lv_topi (fun v29 ev29 => ?_)
              replace hf := lt_e ev29 hf
              obtain ⟨hg30, hf⟩ := gd_s hf
              refine x_iast hx hb hK hP hD hS 1 0 rfl rfl hg30 dL_acts_457 (fun Z31 H locs eZ31 hP hD hS => ?_)
              replace hf := lt_e eZ31 hf
              have hP : va_P D vwCl ([(bg, .inl (cI, 15, .inl vg)), (bu, .inl (cI, 8, .inl Z31)), (bh, .inl (cI, 12, .inl vh)), (bc, .inl (cI, 64, .inl vc)), (be, .inl (cI, 64, .inl ve)), (bt, .inl (cI, 36, .inl vt)), (bx, .inl (cI, 48, .inl vx))] ++ w) H := hP
              have hD : va_D AA ([(bg, .inl (cI, 15, .inl vg)), (bu, .inl (cI, 8, .inl Z31)), (bh, .inl (cI, 12, .inl vh)), (bc, .inl (cI, 64, .inl vc)), (be, .inl (cI, 64, .inl ve)), (bt, .inl (cI, 36, .inl vt)), (bx, .inl (cI, 48, .inl vx))] ++ w) := hD
              refine lv_aload_n hx hb dL_acts_458 rfl (lv_at hl 4 rfl) ?_
              refine lv_iload hx hb dL_acts_459 (lv_at hl 1 rfl) ?_
              refine lv_aload_n hx hb dL_acts_461 rfl (lv_at hl 6 rfl) ?_
              refine lv_iconst (v := (4 : Int32)) hx hb dL_acts_462 (by decide) ?_
              refine lv_iload hx hb dL_acts_463 (lv_at hl 1 rfl) ?_
              refine lv_imul hx hb dL_acts_465 ?_
              obtain ⟨hg32, hf⟩ := gd_s hf
              refine va_iald hx hb hK hP 1 0 rfl rfl hg32 dL_acts_466 ?_
              obtain ⟨q33, hq33, hf⟩ := ob hf
              refine cl_WO (As := [.int v26, .int (Z31 ((4 : Int32) * v26).toNatClampNeg)]) (rest := []) hF hP hD hS (oo_dial hT v26 (Z31 ((4 : Int32) * v26).toNatClampNeg) q33 hq33) (cwV 2 hts gL_acts_X7_dial rfl rfl rfl (by decide +kernel) ⟨(Nat.le_of_ble_eq_true rfl), (Nat.le_of_ble_eq_true rfl)⟩) rfl rfl hl.1 (Nat.le_of_ble_eq_true rfl) dL_acts_467 ⟨Nat.zero_le _, Nat.zero_le _⟩ (fun w H locs hT hP hD hS => ?_)
              refine lv_iload hx hb dL_acts_470 (lv_at hl 0 rfl) ?_
              refine lv_icmp_ne (tgt := 479) hx hb dL_acts_472 (by decide) (fun hc34 => ?_) (fun hc34 => ?_)
              · replace hf := ie hc34 hf
                refine lv_iconst (v := (0 : Int32)) hx hb dL_acts_479 (by decide) ?_
                obtain rfl := Option.some.inj hf
                exact ret 480 ls _ w H locs dL_acts_480 (by decide) rfl hT hP hS
              · replace hf := it hc34 hf
                refine lv_iconst (v := (1 : Int32)) hx hb dL_acts_475 (by decide) ?_
                refine lv_goto (tgt := 480) hx hb dL_acts_476 (by decide) ?_
                obtain rfl := Option.some.inj hf
                exact ret 480 ls _ w H locs dL_acts_480 (by decide) rfl hT hP hS
          · replace hf := it hc7 hf
            refine lv_aload_n hx hb dL_acts_414 rfl (lv_at hl 2 rfl) ?_
            refine lv_aload_n hx hb dL_acts_415 rfl (lv_at hl 3 rfl) ?_
            refine lv_aload hx hb dL_acts_416 (lv_at hl 6 rfl) ?_
            obtain ⟨q35, hq35, hf⟩ := ob hf
            refine cl_WSO (X0 := [(bg, .inl (cI, 15, .inl vg)), (bu, .inl (cI, 8, .inl vu)), (bh, .inl (cI, 12, .inl vh)), (bc, .inl (cI, 64, .inl vc)), (be, .inl (cI, 64, .inl ve)), (bt, .inl (cI, 36, .inl vt)), (bx, .inl (cI, 48, .inl vx))]) (X1 := [(bg, .inl (cI, 15, .inl q35.2.1)), (bu, .inl (cI, 8, .inl vu)), (bh, .inl (cI, 12, .inl vh)), (bc, .inl (cI, 64, .inl q35.2.2.1)), (be, .inl (cI, 64, .inl ve)), (bt, .inl (cI, 36, .inl vt)), (bx, .inl (cI, 48, .inl vx))]) (As := [.ref t0, .ref bg, .ref bc]) (rest := []) hF hP hD hS hST hT (c_L_purges bg bc t0 vg vc og hT q35 hq35) (va_cwS 3 hts gL_acts_L_purges rfl rfl rfl (by decide +kernel) ⟨(Nat.le_of_ble_eq_true rfl), (Nat.le_of_ble_eq_true rfl)⟩) [0, 3] rfl (by decide +kernel) rfl rfl hl.1 (Nat.le_of_ble_eq_true rfl) dL_acts_418 ⟨Nat.zero_le _, Nat.zero_le _⟩ (hA2 [bg, bc] rfl rfl) [1, 2, 4, 5, 6] rfl [(bu, .inl (cI, 8, .inl vu)), (bh, .inl (cI, 12, .inl vh)), (be, .inl (cI, 64, .inl ve)), (bt, .inl (cI, 36, .inl vt)), (bx, .inl (cI, 48, .inl vx))] rfl rfl (nX := 7) rfl rfl (by decide +kernel) (fun w H locs hT hP hD hS => ?_)
            obtain ⟨hg36, hf⟩ := gd_s hf
            obtain rfl := Option.some.inj hf
            exact ret 421 ls _ w H locs dL_acts_421 (zb_ok hg36) rfl hT hP hS
        · replace hf := ie hc6 hf
          refine lv_aload_n hx hb dL_acts_394 rfl (lv_at hl 2 rfl) ?_
          refine lv_aload_n hx hb dL_acts_395 rfl (lv_at hl 3 rfl) ?_
          refine lv_aload_n hx hb dL_acts_396 rfl (lv_at hl 4 rfl) ?_
          refine lv_aload hx hb dL_acts_397 (lv_at hl 7 rfl) ?_
          refine lv_aload hx hb dL_acts_399 (lv_at hl 8 rfl) ?_
          refine lv_aload hx hb dL_acts_401 (lv_at hl 9 rfl) ?_
          obtain ⟨q37, hq37, hf⟩ := ob hf
          refine cl_WSO (X0 := [(bg, .inl (cI, 15, .inl vg)), (bu, .inl (cI, 8, .inl vu)), (bh, .inl (cI, 12, .inl vh)), (bc, .inl (cI, 64, .inl vc)), (be, .inl (cI, 64, .inl ve)), (bt, .inl (cI, 36, .inl vt)), (bx, .inl (cI, 48, .inl vx))]) (X1 := [(bg, .inl (cI, 15, .inl q37.2.1)), (bu, .inl (cI, 8, .inl q37.2.2.1)), (bh, .inl (cI, 12, .inl vh)), (bc, .inl (cI, 64, .inl vc)), (be, .inl (cI, 64, .inl q37.2.2.2.1)), (bt, .inl (cI, 36, .inl q37.2.2.2.2.1)), (bx, .inl (cI, 48, .inl q37.2.2.2.2.2.1))]) (As := [.ref t0, .ref bg, .ref bu, .ref be, .ref bt, .ref bx]) (rest := []) hF hP hD hS hST hT (c_L_shoots bg bu be bt bx t0 vg vu ve vt vx og hT q37 hq37) (va_cwS 6 hts gL_acts_L_shoots rfl rfl rfl (by decide +kernel) ⟨(Nat.le_of_ble_eq_true rfl), (Nat.le_of_ble_eq_true rfl)⟩) [0, 1, 4, 5, 6] rfl (by decide +kernel) rfl rfl hl.1 (Nat.le_of_ble_eq_true rfl) dL_acts_403 ⟨Nat.zero_le _, Nat.zero_le _⟩ (hA2 [bg, bu, be, bt, bx] rfl rfl) [2, 3] rfl [(bh, .inl (cI, 12, .inl vh)), (bc, .inl (cI, 64, .inl vc))] rfl rfl (nX := 7) rfl rfl (by decide +kernel) (fun w H locs hT hP hD hS => ?_)
          obtain ⟨hg38, hf⟩ := gd_s hf
          obtain rfl := Option.some.inj hf
          exact ret 406 ls _ w H locs dL_acts_406 (zb_ok hg38) rfl hT hP hS
      · replace hf := ie hc5 hf
        refine lv_iload hx hb dL_acts_272 (lv_at hl 1 rfl) ?_
        refine lv_iconst (v := (2 : Int32)) hx hb dL_acts_274 (by decide) ?_
        refine lv_irem hx hb dL_acts_275 (by decide) ?_
        refine lv_topi (fun v39 ev39 => ?_)
        replace hf := lt_e ev39 hf
        refine lv_istore (lv' := [(11, .int v39), (10, .int q2), (9, .int q1), (0, .ref t0), (1, .ref bg), (2, .ref bu), (3, .ref bh), (4, .ref bc), (5, .ref be), (6, .ref bt), (7, .ref bx), (8, .int x8)]) hx hb dL_acts_276 hl (by decide) rfl (fun ls hl => ?_)
        refine lv_iconst (v := (1 : Int32)) hx hb dL_acts_278 (by decide) ?_
        refine lv_iload hx hb dL_acts_279 (lv_at hl 2 rfl) ?_
        refine lv_iconst (v := (2 : Int32)) hx hb dL_acts_281 (by decide) ?_
        refine lv_idiv hx hb dL_acts_282 (by decide) ?_
        refine lv_iload hx hb dL_acts_283 (lv_at hl 2 rfl) ?_
        refine lv_iconst (v := (4 : Int32)) hx hb dL_acts_285 (by decide) ?_
        refine lv_irem hx hb dL_acts_286 (by decide) ?_
        refine lv_if_ne (tgt := 296) hx hb dL_acts_287 (by decide) (fun hc40 => ?_) (fun hc40 => ?_)
        · replace hf := ie hc40 hf
          refine lv_sipush (v := (130 : Int32)) hx hb dL_acts_296 (by decide) ?_
          exact J299 v39 (130 : Int32) (q1 / (2 : Int32)) (1 : Int32) vg vu vh vc ve vt vx og w H locs hT hP hD hS ls (lv_sub hl [3, 4, 5, 6, 7, 8, 0] rfl) hf
        · replace hf := it hc40 hf
          refine lv_sipush (v := (400 : Int32)) hx hb dL_acts_290 (by decide) ?_
          refine lv_goto (tgt := 299) hx hb dL_acts_293 (by decide) ?_
          exact J299 v39 (400 : Int32) (q1 / (2 : Int32)) (1 : Int32) vg vu vh vc ve vt vx og w H locs hT hP hD hS ls (lv_sub hl [3, 4, 5, 6, 7, 8, 0] rfl) hf
    · replace hf := ie hc4 hf
      refine lv_iload hx hb dL_acts_75 (lv_at hl 1 rfl) ?_
      refine lv_iconst (v := (2 : Int32)) hx hb dL_acts_77 (by decide) ?_
      refine lv_irem hx hb dL_acts_78 (by decide) ?_
      refine lv_topi (fun v41 ev41 => ?_)
      replace hf := lt_e ev41 hf
      refine lv_istore (lv' := [(11, .int v41), (10, .int q2), (9, .int q1), (0, .ref t0), (1, .ref bg), (2, .ref bu), (3, .ref bh), (4, .ref bc), (5, .ref be), (6, .ref bt), (7, .ref bx), (8, .int x8)]) hx hb dL_acts_79 hl (by decide) rfl (fun ls hl => ?_)
      refine lv_iconst (v := (1 : Int32)) hx hb dL_acts_81 (by decide) ?_
      refine lv_iload hx hb dL_acts_82 (lv_at hl 2 rfl) ?_
      refine lv_iconst (v := (2 : Int32)) hx hb dL_acts_84 (by decide) ?_
      refine lv_idiv hx hb dL_acts_85 (by decide) ?_
      refine lv_iload hx hb dL_acts_86 (lv_at hl 2 rfl) ?_
      refine lv_iconst (v := (5 : Int32)) hx hb dL_acts_88 (by decide) ?_
      refine lv_irem hx hb dL_acts_89 (by decide) ?_
      refine lv_if_ne (tgt := 99) hx hb dL_acts_90 (by decide) (fun hc42 => ?_) (fun hc42 => ?_)
      · replace hf := ie hc42 hf
        refine lv_sipush (v := (180 : Int32)) hx hb dL_acts_99 (by decide) ?_
        exact J102 v41 (180 : Int32) (q1 / (2 : Int32)) (1 : Int32) vg vu vh vc ve vt vx og w H locs hT hP hD hS ls (lv_sub hl [3, 4, 6, 0] rfl) hf
      · replace hf := it hc42 hf
        refine lv_sipush (v := (999 : Int32)) hx hb dL_acts_93 (by decide) ?_
        refine lv_goto (tgt := 102) hx hb dL_acts_96 (by decide) ?_
        exact J102 v41 (999 : Int32) (q1 / (2 : Int32)) (1 : Int32) vg vu vh vc ve vt vx og w H locs hT hP hD hS ls (lv_sub hl [3, 4, 6, 0] rfl) hf
  · replace hf := ie hc3 hf
    refine lv_aload hx hb dL_acts_34 (lv_at hl 7 rfl) ?_
    refine lv_iconst (v := (0 : Int32)) hx hb dL_acts_36 (by decide) ?_
    refine va_iald hx hb hK hP 4 0 rfl rfl (show ¬ ((0 : Int32) < 0 ∨ 64 ≤ (0 : Int32).toNatClampNeg) by decide) dL_acts_37 ?_
    refine lv_aload hx hb dL_acts_38 (lv_at hl 6 rfl) ?_
    refine lv_iconst (v := (0 : Int32)) hx hb dL_acts_40 (by decide) ?_
    refine va_iald hx hb hK hP 3 0 rfl rfl (show ¬ ((0 : Int32) < 0 ∨ 64 ≤ (0 : Int32).toNatClampNeg) by decide) dL_acts_41 ?_
    refine lv_icmp_le (tgt := 60) hx hb dL_acts_42 (by decide) (fun hc43 => ?_) (fun hc43 => ?_)
    · replace hf := it hc43 hf
      refine lv_aload_n hx hb dL_acts_60 rfl (lv_at hl 2 rfl) ?_
      refine lv_aload_n hx hb dL_acts_61 rfl (lv_at hl 3 rfl) ?_
      refine lv_aload hx hb dL_acts_62 (lv_at hl 6 rfl) ?_
      obtain ⟨q44, hq44, hf⟩ := ob hf
      refine cl_WSO (X0 := [(bg, .inl (cI, 15, .inl vg)), (bu, .inl (cI, 8, .inl vu)), (bh, .inl (cI, 12, .inl vh)), (bc, .inl (cI, 64, .inl vc)), (be, .inl (cI, 64, .inl ve)), (bt, .inl (cI, 36, .inl vt)), (bx, .inl (cI, 48, .inl vx))]) (X1 := [(bg, .inl (cI, 15, .inl q44.2.1)), (bu, .inl (cI, 8, .inl vu)), (bh, .inl (cI, 12, .inl vh)), (bc, .inl (cI, 64, .inl q44.2.2.1)), (be, .inl (cI, 64, .inl ve)), (bt, .inl (cI, 36, .inl vt)), (bx, .inl (cI, 48, .inl vx))]) (As := [.ref t0, .ref bg, .ref bc]) (rest := []) hF hP hD hS hST hT (c_L_purges bg bc t0 vg vc og hT q44 hq44) (va_cwS 3 hts gL_acts_L_purges rfl rfl rfl (by decide +kernel) ⟨(Nat.le_of_ble_eq_true rfl), (Nat.le_of_ble_eq_true rfl)⟩) [0, 3] rfl (by decide +kernel) rfl rfl hl.1 (Nat.le_of_ble_eq_true rfl) dL_acts_64 ⟨Nat.zero_le _, Nat.zero_le _⟩ (hA2 [bg, bc] rfl rfl) [1, 2, 4, 5, 6] rfl [(bu, .inl (cI, 8, .inl vu)), (bh, .inl (cI, 12, .inl vh)), (be, .inl (cI, 64, .inl ve)), (bt, .inl (cI, 36, .inl vt)), (bx, .inl (cI, 48, .inl vx))] rfl rfl (nX := 7) rfl rfl (by decide +kernel) (fun w H locs hT hP hD hS => ?_)
      obtain ⟨hg45, hf⟩ := gd_s hf
      obtain rfl := Option.some.inj hf
      exact ret 67 ls _ w H locs dL_acts_67 (zb_ok hg45) rfl hT hP hS
    · replace hf := ie hc43 hf
      refine lv_aload_n hx hb dL_acts_45 rfl (lv_at hl 2 rfl) ?_
      refine lv_aload_n hx hb dL_acts_46 rfl (lv_at hl 3 rfl) ?_
      refine lv_aload_n hx hb dL_acts_47 rfl (lv_at hl 4 rfl) ?_
      refine lv_aload hx hb dL_acts_48 (lv_at hl 7 rfl) ?_
      refine lv_aload hx hb dL_acts_50 (lv_at hl 8 rfl) ?_
      refine lv_aload hx hb dL_acts_52 (lv_at hl 9 rfl) ?_
      obtain ⟨q46, hq46, hf⟩ := ob hf
      refine cl_WSO (X0 := [(bg, .inl (cI, 15, .inl vg)), (bu, .inl (cI, 8, .inl vu)), (bh, .inl (cI, 12, .inl vh)), (bc, .inl (cI, 64, .inl vc)), (be, .inl (cI, 64, .inl ve)), (bt, .inl (cI, 36, .inl vt)), (bx, .inl (cI, 48, .inl vx))]) (X1 := [(bg, .inl (cI, 15, .inl q46.2.1)), (bu, .inl (cI, 8, .inl q46.2.2.1)), (bh, .inl (cI, 12, .inl vh)), (bc, .inl (cI, 64, .inl vc)), (be, .inl (cI, 64, .inl q46.2.2.2.1)), (bt, .inl (cI, 36, .inl q46.2.2.2.2.1)), (bx, .inl (cI, 48, .inl q46.2.2.2.2.2.1))]) (As := [.ref t0, .ref bg, .ref bu, .ref be, .ref bt, .ref bx]) (rest := []) hF hP hD hS hST hT (c_L_shoots bg bu be bt bx t0 vg vu ve vt vx og hT q46 hq46) (va_cwS 6 hts gL_acts_L_shoots rfl rfl rfl (by decide +kernel) ⟨(Nat.le_of_ble_eq_true rfl), (Nat.le_of_ble_eq_true rfl)⟩) [0, 1, 4, 5, 6] rfl (by decide +kernel) rfl rfl hl.1 (Nat.le_of_ble_eq_true rfl) dL_acts_54 ⟨Nat.zero_le _, Nat.zero_le _⟩ (hA2 [bg, bu, be, bt, bx] rfl rfl) [2, 3] rfl [(bh, .inl (cI, 12, .inl vh)), (bc, .inl (cI, 64, .inl vc))] rfl rfl (nX := 7) rfl rfl (by decide +kernel) (fun w H locs hT hP hD hS => ?_)
      refine lv_goto (tgt := 67) hx hb dL_acts_57 (by decide) ?_
      obtain ⟨hg47, hf⟩ := gd_s hf
      obtain rfl := Option.some.inj hf
      exact ret 67 ls _ w H locs dL_acts_67 (zb_ok hg47) rfl hT hP hS
abbrev rmL_arePortions : Room := { frames := 5, cells := 0, slots := 0, locals := 89 }
set_option maxHeartbeats 4000000 in
set_option maxRecDepth 100000 in
theorem c_L_arePortions {w0 w : va_W} (bg : Nat) (bc : Nat) (t0 : Nat) (x2 : Int32) (vg : Nat → Int32) (vc : Nat → Int32) (og : Sp) (hT : OB cI cC t0 w0 og w) (R : Int32) (hf : f_L_arePortions x2 vg vc og = some R) : RdI l yL_arePortions wsL_arePortions rmL_arePortions D cI cC ([(bg, .inl (cI, 15, .inl vg)), (bc, .inl (cI, 64, .inl vc))] ++ w) [.ref t0, .ref bg, .int x2, .ref bc] R := by
  refine en_R (cc := cL_arePortions) (n := 7) (by decide) rfl (Nat.le_of_ble_eq_true rfl) ?_
  intro p e s m args below meth c Q AA ls hx hb hml hown hts hK hN hP hD hl ret
  have hown : s.vm.findClass RL = some m.cls := hown
  have hF : FX p m c cL_arePortions 7 s args wsL_arePortions RL D cI cC := ⟨⟨hx, hb, hml, hown, hts⟩, hK, hN⟩
  have hl : lv_has ls 7 [(0, .ref t0), (1, .ref bg), (2, .int x2), (3, .ref bc)] := hl
  have k1_ := hts (.constant RL 93 (-1000004)) (List.mem_of_getElem? (i := 1) rfl)
  have k2_ := hts (.constant RL 94 (-1000001)) (List.mem_of_getElem? (i := 2) rfl)
  have J129 : ∀ (y2_129 : Int32) (y4_129 : Int32), ∀ ls : Array Slot, lv_has ls 7 [(0, .ref t0), (2, .int y2_129), (3, .ref bc), (4, .int y4_129)] → f_L_arePortions_J129 vg vc og y2_129 y4_129 = some R → W p l e rmL_arePortions s m args below meth c s.heap [] 0 0 Q (F0 m 129 ls []) := by
    intro y2_129 y4_129 ls hl hf
    rw [f_L_arePortions_J129] at hf
    refine lv_iload hx hb dL_arePortions_129 (lv_at hl 3 rfl) ?_
    refine lv_if_eq (tgt := 179) hx hb dL_arePortions_131 (by decide) (fun hc16 => ?_) (fun hc16 => ?_)
    · replace hf := it hc16 hf
      refine lv_iconst (v := (0 : Int32)) hx hb dL_arePortions_179 (by decide) ?_
      obtain rfl := Option.some.inj hf
      exact ret 180 ls _ dL_arePortions_180 (by decide) rfl
    · replace hf := ie hc16 hf
      refine lv_aload_n hx hb dL_arePortions_134 rfl (lv_at hl 0 rfl) ?_
      refine lv_iload_n hx hb dL_arePortions_135 rfl (lv_at hl 1 rfl) ?_
      refine lv_aload_n hx hb dL_arePortions_136 rfl (lv_at hl 2 rfl) ?_
      refine lv_iconst (v := (0 : Int32)) hx hb dL_arePortions_137 (by decide) ?_
      refine va_iald hx hb hK hP 1 0 rfl rfl (show ¬ ((0 : Int32) < 0 ∨ 64 ≤ (0 : Int32).toNatClampNeg) by decide) dL_arePortions_138 ?_
      refine lv_iconst (v := (0 : Int32)) hx hb dL_arePortions_139 (by decide) ?_
      obtain ⟨q17, hq17, hf⟩ := ob hf
      refine cl_RO (As := [.int y2_129, .int (vc (0 : Int32).toNatClampNeg), .int (0 : Int32)]) (rest := []) hF hP hD hT (oq_portionOf hT y2_129 (vc (0 : Int32).toNatClampNeg) (0 : Int32) q17 hq17) (cwV 3 hts gL_arePortions_X7_portionOf rfl rfl rfl (by decide +kernel) ⟨(Nat.le_of_ble_eq_true rfl), (Nat.le_of_ble_eq_true rfl)⟩) rfl rfl hl.1 (Nat.le_of_ble_eq_true rfl) dL_arePortions_140 ⟨Nat.zero_le _, Nat.zero_le _⟩ ?_
      refine lv_ldc hx hb hown k1_ dL_arePortions_143 ?_
      refine lv_icmp_ne (tgt := 179) hx hb dL_arePortions_145 (by decide) (fun hc18 => ?_) (fun hc18 => ?_)
      · replace hf := ie hc18 hf
        refine lv_iconst (v := (0 : Int32)) hx hb dL_arePortions_179 (by decide) ?_
        obtain rfl := Option.some.inj hf
        exact ret 180 ls _ dL_arePortions_180 (by decide) rfl
      · replace hf := it hc18 hf
        refine lv_aload_n hx hb dL_arePortions_148 rfl (lv_at hl 0 rfl) ?_
        refine lv_iload_n hx hb dL_arePortions_149 rfl (lv_at hl 1 rfl) ?_
        refine lv_iconst (v := (0 : Int32)) hx hb dL_arePortions_150 (by decide) ?_
        refine lv_iconst (v := (5 : Int32)) hx hb dL_arePortions_151 (by decide) ?_
        obtain ⟨q19, hq19, hf⟩ := ob hf
        refine cl_RO (As := [.int y2_129, .int (0 : Int32), .int (5 : Int32)]) (rest := []) hF hP hD hT (oq_portionOf hT y2_129 (0 : Int32) (5 : Int32) q19 hq19) (cwV 3 hts gL_arePortions_X7_portionOf rfl rfl rfl (by decide +kernel) ⟨(Nat.le_of_ble_eq_true rfl), (Nat.le_of_ble_eq_true rfl)⟩) rfl rfl hl.1 (Nat.le_of_ble_eq_true rfl) dL_arePortions_152 ⟨Nat.zero_le _, Nat.zero_le _⟩ ?_
        refine lv_ldc hx hb hown k2_ dL_arePortions_155 ?_
        refine lv_icmp_ne (tgt := 179) hx hb dL_arePortions_157 (by decide) (fun hc20 => ?_) (fun hc20 => ?_)
        · replace hf := ie hc20 hf
          refine lv_iconst (v := (0 : Int32)) hx hb dL_arePortions_179 (by decide) ?_
          obtain rfl := Option.some.inj hf
          exact ret 180 ls _ dL_arePortions_180 (by decide) rfl
        · replace hf := it hc20 hf
          refine lv_aload_n hx hb dL_arePortions_160 rfl (lv_at hl 0 rfl) ?_
          refine lv_bipush (v := (6 : Int32)) hx hb dL_arePortions_161 (by decide) ?_
          refine lv_iload_n hx hb dL_arePortions_163 rfl (lv_at hl 1 rfl) ?_
          refine lv_iadd hx hb dL_arePortions_164 ?_
          obtain ⟨q21, hq21, hf⟩ := ob hf
          refine cl_RO (As := [.int ((6 : Int32) + y2_129)]) (rest := []) hF hP hD hT (oq_count hT ((6 : Int32) + y2_129) q21 hq21) (cwV 1 hts gL_arePortions_X7_count rfl rfl rfl (by decide +kernel) ⟨(Nat.le_of_ble_eq_true rfl), (Nat.le_of_ble_eq_true rfl)⟩) rfl rfl hl.1 (Nat.le_of_ble_eq_true rfl) dL_arePortions_165 ⟨Nat.zero_le _, Nat.zero_le _⟩ ?_
          refine lv_aload_n hx hb dL_arePortions_168 rfl (lv_at hl 2 rfl) ?_
          obtain ⟨q22, hq22, hf⟩ := ob hf
          refine cl_RSL (X0 := [(bg, .inl (cI, 15, .inl vg)), (bc, .inl (cI, 64, .inl vc))]) (As := [.ref bc]) (rest := [.int q21]) hF hP hD (c_L_amounts bc vc q22 hq22) (va_cwS 1 hts gL_arePortions_L_amounts rfl rfl rfl (by decide +kernel) ⟨(Nat.le_of_ble_eq_true rfl), (Nat.le_of_ble_eq_true rfl)⟩) [1] rfl (by decide +kernel) rfl rfl hl.1 (Nat.le_of_ble_eq_true rfl) dL_arePortions_169 ⟨Nat.zero_le _, Nat.zero_le _⟩ ?_
          refine lv_icmp_ne (tgt := 179) hx hb dL_arePortions_172 (by decide) (fun hc23 => ?_) (fun hc23 => ?_)
          · replace hf := ie hc23 hf
            refine lv_iconst (v := (0 : Int32)) hx hb dL_arePortions_179 (by decide) ?_
            obtain rfl := Option.some.inj hf
            exact ret 180 ls _ dL_arePortions_180 (by decide) rfl
          · replace hf := it hc23 hf
            refine lv_iconst (v := (1 : Int32)) hx hb dL_arePortions_175 (by decide) ?_
            refine lv_goto (tgt := 180) hx hb dL_arePortions_176 (by decide) ?_
            obtain rfl := Option.some.inj hf
            exact ret 180 ls _ dL_arePortions_180 (by decide) rfl
  have L6 : ∀ n6 : Nat, ∀ (y2_6 : Int32) (y4_6 : Int32) (y5_6 : Int32), ∀ ls : Array Slot, lv_has ls 7 [(0, .ref t0), (1, .ref bg), (2, .int y2_6), (3, .ref bc), (4, .int y4_6), (5, .int y5_6)] → f_L_arePortions_L6 vg vc og y2_6 n6 y4_6 y5_6 = some R → W p l e rmL_arePortions s m args below meth c s.heap [] 0 0 Q (F0 m 6 ls []) := by
    intro n6
    induction n6 with
    | zero => intro y2_6 y4_6 y5_6 ls hl hf; rw [f_L_arePortions_L6] at hf; cases hf
    | succ n6 IH6 =>
      intro y2_6 y4_6 y5_6 ls hl hf
      have J121 : ∀ (y5_121 : Int32) (z0_121 : Int32), ∀ ls : Array Slot, lv_has ls 7 [(0, .ref t0), (1, .ref bg), (2, .int y2_6), (3, .ref bc), (5, .int y5_121)] → f_L_arePortions_J121 (f_L_arePortions_L6 vg vc og y2_6 n6) vg vc og y2_6 y5_121 z0_121 = some R → W p l e rmL_arePortions s m args below meth c s.heap [] 0 0 Q (F0 m 121 ls [.int z0_121]) := by
        intro y5_121 z0_121 ls hl hf
        rw [f_L_arePortions_J121] at hf
        refine lv_istore (lv' := [(4, .int z0_121), (0, .ref t0), (1, .ref bg), (2, .int y2_6), (3, .ref bc), (5, .int y5_121)]) hx hb dL_arePortions_121 hl (by decide) rfl (fun ls hl => ?_)
        obtain ⟨v24, ev24⟩ : ∃ z : Int32, z = y5_121 + (1 : Int32) := ⟨_, rfl⟩
        replace hf := lt_e ev24 hf
        refine lv_iinc (v := v24) (lv' := [(5, .int v24), (4, .int z0_121), (0, .ref t0), (1, .ref bg), (2, .int y2_6), (3, .ref bc)]) hx hb dL_arePortions_123 hl (k := 5) rfl (by rw [ev24]; rfl) (by decide) rfl (fun ls hl => ?_)
        refine lv_goto (tgt := 6) hx hb dL_arePortions_126 (by decide) ?_
        exact IH6 y2_6 z0_121 v24 ls (lv_sub hl [2, 3, 4, 5, 1, 0] rfl) hf
      have J120 : ∀ (y5_120 : Int32), ∀ ls : Array Slot, lv_has ls 7 [(0, .ref t0), (1, .ref bg), (2, .int y2_6), (3, .ref bc), (5, .int y5_120)] → f_L_arePortions_J120 (f_L_arePortions_L6 vg vc og y2_6 n6) vg vc og y2_6 y5_120 = some R → W p l e rmL_arePortions s m args below meth c s.heap [] 0 0 Q (F0 m 120 ls []) := by
        intro y5_120 ls hl hf
        rw [f_L_arePortions_J120] at hf
        refine lv_iconst (v := (0 : Int32)) hx hb dL_arePortions_120 (by decide) ?_
        exact J121 y5_120 (0 : Int32) ls (lv_sub hl [0, 1, 2, 3, 4] rfl) hf
      rw [f_L_arePortions_L6] at hf
      refine lv_iload hx hb dL_arePortions_6 (lv_at hl 5 rfl) ?_
      refine lv_aload_n hx hb dL_arePortions_8 rfl (lv_at hl 3 rfl) ?_
      refine lv_iconst (v := (0 : Int32)) hx hb dL_arePortions_9 (by decide) ?_
      refine va_iald hx hb hK hP 1 0 rfl rfl (show ¬ ((0 : Int32) < 0 ∨ 64 ≤ (0 : Int32).toNatClampNeg) by decide) dL_arePortions_10 ?_
      refine lv_icmp_ge (tgt := 129) hx hb dL_arePortions_11 (by decide) (fun hc1 => ?_) (fun hc1 => ?_)
      · replace hf := it hc1 hf
        exact J129 y2_6 y4_6 ls (lv_sub hl [0, 2, 3, 4] rfl) hf
      · replace hf := ie hc1 hf
        refine lv_iload hx hb dL_arePortions_14 (lv_at hl 4 rfl) ?_
        refine lv_if_eq (tgt := 129) hx hb dL_arePortions_16 (by decide) (fun hc2 => ?_) (fun hc2 => ?_)
        · replace hf := it hc2 hf
          exact J129 y2_6 y4_6 ls (lv_sub hl [0, 2, 3, 4] rfl) hf
        · replace hf := ie hc2 hf
          refine lv_aload_n hx hb dL_arePortions_19 rfl (lv_at hl 3 rfl) ?_
          refine lv_iload hx hb dL_arePortions_20 (lv_at hl 5 rfl) ?_
          refine lv_iconst (v := (1 : Int32)) hx hb dL_arePortions_22 (by decide) ?_
          refine lv_iadd hx hb dL_arePortions_23 ?_
          obtain ⟨hg3, hf⟩ := gd_s hf
          refine va_iald hx hb hK hP 1 0 rfl rfl hg3 dL_arePortions_24 ?_
          refine lv_topi (fun v4 ev4 => ?_)
          replace hf := lt_e ev4 hf
          refine lv_istore (lv' := [(6, .int v4), (0, .ref t0), (1, .ref bg), (2, .int y2_6), (3, .ref bc), (4, .int y4_6), (5, .int y5_6)]) hx hb dL_arePortions_25 hl (by decide) rfl (fun ls hl => ?_)
          refine lv_aload_n hx hb dL_arePortions_27 rfl (lv_at hl 1 rfl) ?_
          refine lv_iload_n hx hb dL_arePortions_28 rfl (lv_at hl 3 rfl) ?_
          refine lv_iload hx hb dL_arePortions_29 (lv_at hl 6 rfl) ?_
          refine lv_iconst (v := (0 : Int32)) hx hb dL_arePortions_31 (by decide) ?_
          obtain ⟨q5, hq5, hf⟩ := ob hf
          refine cl_RO (As := [.int y2_6, .int y5_6, .int (0 : Int32)]) (rest := []) hF hP hD hT (oq_portionOf hT y2_6 y5_6 (0 : Int32) q5 hq5) (cwV 3 hts gL_arePortions_X7_portionOf rfl rfl rfl (by decide +kernel) ⟨(Nat.le_of_ble_eq_true rfl), (Nat.le_of_ble_eq_true rfl)⟩) rfl rfl hl.1 (Nat.le_of_ble_eq_true rfl) dL_arePortions_32 ⟨Nat.zero_le _, Nat.zero_le _⟩ ?_
          refine lv_iload hx hb dL_arePortions_35 (lv_at hl 0 rfl) ?_
          refine lv_sipush (v := (1000 : Int32)) hx hb dL_arePortions_37 (by decide) ?_
          refine lv_irem hx hb dL_arePortions_40 (by decide) ?_
          refine lv_icmp_ne (tgt := 120) hx hb dL_arePortions_41 (by decide) (fun hc6 => ?_) (fun hc6 => ?_)
          · replace hf := ie hc6 hf
            exact J120 y5_6 ls (lv_sub hl [1, 2, 3, 4, 6] rfl) hf
          · replace hf := it hc6 hf
            refine lv_aload_n hx hb dL_arePortions_44 rfl (lv_at hl 1 rfl) ?_
            refine lv_iload_n hx hb dL_arePortions_45 rfl (lv_at hl 3 rfl) ?_
            refine lv_iload hx hb dL_arePortions_46 (lv_at hl 6 rfl) ?_
            refine lv_iconst (v := (1 : Int32)) hx hb dL_arePortions_48 (by decide) ?_
            obtain ⟨q7, hq7, hf⟩ := ob hf
            refine cl_RO (As := [.int y2_6, .int y5_6, .int (1 : Int32)]) (rest := []) hF hP hD hT (oq_portionOf hT y2_6 y5_6 (1 : Int32) q7 hq7) (cwV 3 hts gL_arePortions_X7_portionOf rfl rfl rfl (by decide +kernel) ⟨(Nat.le_of_ble_eq_true rfl), (Nat.le_of_ble_eq_true rfl)⟩) rfl rfl hl.1 (Nat.le_of_ble_eq_true rfl) dL_arePortions_49 ⟨Nat.zero_le _, Nat.zero_le _⟩ ?_
            refine lv_iload hx hb dL_arePortions_52 (lv_at hl 0 rfl) ?_
            refine lv_sipush (v := (1000 : Int32)) hx hb dL_arePortions_54 (by decide) ?_
            refine lv_idiv hx hb dL_arePortions_57 (by decide) ?_
            refine lv_iconst (v := (2 : Int32)) hx hb dL_arePortions_58 (by decide) ?_
            refine lv_irem hx hb dL_arePortions_59 (by decide) ?_
            refine lv_icmp_ne (tgt := 120) hx hb dL_arePortions_60 (by decide) (fun hc8 => ?_) (fun hc8 => ?_)
            · replace hf := ie hc8 hf
              exact J120 y5_6 ls (lv_sub hl [1, 2, 3, 4, 6] rfl) hf
            · replace hf := it hc8 hf
              refine lv_aload_n hx hb dL_arePortions_63 rfl (lv_at hl 1 rfl) ?_
              refine lv_iload_n hx hb dL_arePortions_64 rfl (lv_at hl 3 rfl) ?_
              refine lv_iload hx hb dL_arePortions_65 (lv_at hl 6 rfl) ?_
              refine lv_iconst (v := (2 : Int32)) hx hb dL_arePortions_67 (by decide) ?_
              obtain ⟨q9, hq9, hf⟩ := ob hf
              refine cl_RO (As := [.int y2_6, .int y5_6, .int (2 : Int32)]) (rest := []) hF hP hD hT (oq_portionOf hT y2_6 y5_6 (2 : Int32) q9 hq9) (cwV 3 hts gL_arePortions_X7_portionOf rfl rfl rfl (by decide +kernel) ⟨(Nat.le_of_ble_eq_true rfl), (Nat.le_of_ble_eq_true rfl)⟩) rfl rfl hl.1 (Nat.le_of_ble_eq_true rfl) dL_arePortions_68 ⟨Nat.zero_le _, Nat.zero_le _⟩ ?_
              refine lv_iload hx hb dL_arePortions_71 (lv_at hl 0 rfl) ?_
              refine lv_sipush (v := (2000 : Int32)) hx hb dL_arePortions_73 (by decide) ?_
              refine lv_idiv hx hb dL_arePortions_76 (by decide) ?_
              refine lv_iconst (v := (2 : Int32)) hx hb dL_arePortions_77 (by decide) ?_
              refine lv_irem hx hb dL_arePortions_78 (by decide) ?_
              refine lv_icmp_ne (tgt := 120) hx hb dL_arePortions_79 (by decide) (fun hc10 => ?_) (fun hc10 => ?_)
              · replace hf := ie hc10 hf
                exact J120 y5_6 ls (lv_sub hl [1, 2, 3, 4, 6] rfl) hf
              · replace hf := it hc10 hf
                refine lv_aload_n hx hb dL_arePortions_82 rfl (lv_at hl 1 rfl) ?_
                refine lv_iload_n hx hb dL_arePortions_83 rfl (lv_at hl 3 rfl) ?_
                refine lv_iload hx hb dL_arePortions_84 (lv_at hl 6 rfl) ?_
                refine lv_iconst (v := (3 : Int32)) hx hb dL_arePortions_86 (by decide) ?_
                obtain ⟨q11, hq11, hf⟩ := ob hf
                refine cl_RO (As := [.int y2_6, .int y5_6, .int (3 : Int32)]) (rest := []) hF hP hD hT (oq_portionOf hT y2_6 y5_6 (3 : Int32) q11 hq11) (cwV 3 hts gL_arePortions_X7_portionOf rfl rfl rfl (by decide +kernel) ⟨(Nat.le_of_ble_eq_true rfl), (Nat.le_of_ble_eq_true rfl)⟩) rfl rfl hl.1 (Nat.le_of_ble_eq_true rfl) dL_arePortions_87 ⟨Nat.zero_le _, Nat.zero_le _⟩ ?_
                refine lv_iload hx hb dL_arePortions_90 (lv_at hl 0 rfl) ?_
                refine lv_sipush (v := (4000 : Int32)) hx hb dL_arePortions_92 (by decide) ?_
                refine lv_idiv hx hb dL_arePortions_95 (by decide) ?_
                refine lv_icmp_ne (tgt := 120) hx hb dL_arePortions_96 (by decide) (fun hc12 => ?_) (fun hc12 => ?_)
                · replace hf := ie hc12 hf
                  exact J120 y5_6 ls (lv_sub hl [1, 2, 3, 4, 6] rfl) hf
                · replace hf := it hc12 hf
                  refine lv_aload_n hx hb dL_arePortions_99 rfl (lv_at hl 1 rfl) ?_
                  refine lv_iload_n hx hb dL_arePortions_100 rfl (lv_at hl 3 rfl) ?_
                  refine lv_iload hx hb dL_arePortions_101 (lv_at hl 6 rfl) ?_
                  refine lv_iconst (v := (4 : Int32)) hx hb dL_arePortions_103 (by decide) ?_
                  obtain ⟨q13, hq13, hf⟩ := ob hf
                  refine cl_RO (As := [.int y2_6, .int y5_6, .int (4 : Int32)]) (rest := []) hF hP hD hT (oq_portionOf hT y2_6 y5_6 (4 : Int32) q13 hq13) (cwV 3 hts gL_arePortions_X7_portionOf rfl rfl rfl (by decide +kernel) ⟨(Nat.le_of_ble_eq_true rfl), (Nat.le_of_ble_eq_true rfl)⟩) rfl rfl hl.1 (Nat.le_of_ble_eq_true rfl) dL_arePortions_104 ⟨Nat.zero_le _, Nat.zero_le _⟩ ?_
                  refine lv_aload_n hx hb dL_arePortions_107 rfl (lv_at hl 2 rfl) ?_
                  refine lv_iload hx hb dL_arePortions_108 (lv_at hl 0 rfl) ?_
                  obtain ⟨q14, hq14, hf⟩ := ob hf
                  refine cl_RSL (X0 := [(bg, .inl (cI, 15, .inl vg)), (bc, .inl (cI, 64, .inl vc))]) (As := [.ref bg, .int v4]) (rest := [.int q13]) hF hP hD (c_L_flow bg v4 vg q14 hq14) (va_cwS 2 hts gL_arePortions_L_flow rfl rfl rfl (by decide +kernel) ⟨(Nat.le_of_ble_eq_true rfl), (Nat.le_of_ble_eq_true rfl)⟩) [0] rfl (by decide +kernel) rfl rfl hl.1 (Nat.le_of_ble_eq_true rfl) dL_arePortions_110 ⟨Nat.zero_le _, Nat.zero_le _⟩ ?_
                  refine lv_icmp_ne (tgt := 120) hx hb dL_arePortions_113 (by decide) (fun hc15 => ?_) (fun hc15 => ?_)
                  · replace hf := ie hc15 hf
                    exact J120 y5_6 ls (lv_sub hl [1, 2, 3, 4, 6] rfl) hf
                  · replace hf := it hc15 hf
                    refine lv_iconst (v := (1 : Int32)) hx hb dL_arePortions_116 (by decide) ?_
                    refine lv_goto (tgt := 121) hx hb dL_arePortions_117 (by decide) ?_
                    exact J121 y5_6 (1 : Int32) ls (lv_sub hl [1, 2, 3, 4, 6] rfl) hf
  rw [f_L_arePortions] at hf
  refine lv_iconst (v := (1 : Int32)) hx hb dL_arePortions_0 (by decide) ?_
  refine lv_istore (lv' := [(4, .int (1 : Int32)), (0, .ref t0), (1, .ref bg), (2, .int x2), (3, .ref bc)]) hx hb dL_arePortions_1 hl (by decide) rfl (fun ls hl => ?_)
  refine lv_iconst (v := (0 : Int32)) hx hb dL_arePortions_3 (by decide) ?_
  refine lv_istore (lv' := [(5, .int (0 : Int32)), (4, .int (1 : Int32)), (0, .ref t0), (1, .ref bg), (2, .int x2), (3, .ref bc)]) hx hb dL_arePortions_4 hl (by decide) rfl (fun ls hl => ?_)
  exact L6 FU x2 (1 : Int32) (0 : Int32) ls (lv_sub hl [2, 3, 4, 5, 1, 0] rfl) hf
abbrev rmL_isSo : Room := { frames := 6, cells := 0, slots := 0, locals := 115 }
set_option maxHeartbeats 4000000 in
set_option maxRecDepth 100000 in
theorem c_L_isSo {w0 w : va_W} (bg : Nat) (bu : Nat) (bh : Nat) (bc : Nat) (be : Nat) (bt : Nat) (bx : Nat) (t0 : Nat) (vg : Nat → Int32) (vu : Nat → Int32) (vh : Nat → Int32) (vc : Nat → Int32) (ve : Nat → Int32) (vt : Nat → Int32) (vx : Nat → Int32) (og : Sp) (hT : OB cI cC t0 w0 og w) (R : Int32) (hf : f_L_isSo vg vu vh vc ve vt vx og = some R) : RdI l yL_isSo wsL_isSo rmL_isSo D cI cC ([(bg, .inl (cI, 15, .inl vg)), (bu, .inl (cI, 8, .inl vu)), (bh, .inl (cI, 12, .inl vh)), (bc, .inl (cI, 64, .inl vc)), (be, .inl (cI, 64, .inl ve)), (bt, .inl (cI, 36, .inl vt)), (bx, .inl (cI, 48, .inl vx))] ++ w) [.ref t0, .ref bg, .ref bu, .ref bh, .ref bc, .ref be, .ref bt, .ref bx] R := by
  refine en_R (cc := cL_isSo) (n := 11) (by decide) rfl (Nat.le_of_ble_eq_true rfl) ?_
  intro p e s m args below meth c Q AA ls hx hb hml hown hts hK hN hP hD hl ret
  have hown : s.vm.findClass RL = some m.cls := hown
  have hF : FX p m c cL_isSo 11 s args wsL_isSo RL D cI cC := ⟨⟨hx, hb, hml, hown, hts⟩, hK, hN⟩
  have hl : lv_has ls 11 [(0, .ref t0), (1, .ref bg), (2, .ref bu), (3, .ref bh), (4, .ref bc), (5, .ref be), (6, .ref bt), (7, .ref bx)] := hl
  have k1_ := hts (.constant RL 93 (-1000004)) (List.mem_of_getElem? (i := 1) rfl)
  have J624 : ∀ (z0_624 : Int32), ∀ ls : Array Slot, lv_has ls 11 [(0, .ref t0), (1, .ref bg), (3, .ref bh)] → f_L_isSo_J624 vg vu vh vc ve vt vx og z0_624 = some R → W p l e rmL_isSo s m args below meth c s.heap [] 0 0 Q (F0 m 624 ls [.int z0_624]) := by
    intro z0_624 ls hl hf
    rw [f_L_isSo_J624] at hf
    refine lv_istore (lv' := [(8, .int z0_624), (0, .ref t0), (1, .ref bg), (3, .ref bh)]) hx hb dL_isSo_624 hl (by decide) rfl (fun ls hl => ?_)
    refine lv_iload hx hb dL_isSo_626 (lv_at hl 0 rfl) ?_
    refine lv_if_eq (tgt := 749) hx hb dL_isSo_628 (by decide) (fun hc67 => ?_) (fun hc67 => ?_)
    · replace hf := it hc67 hf
      refine lv_iconst (v := (0 : Int32)) hx hb dL_isSo_749 (by decide) ?_
      obtain rfl := Option.some.inj hf
      exact ret 750 ls _ dL_isSo_750 (by decide) rfl
    · replace hf := ie hc67 hf
      refine lv_aload_n hx hb dL_isSo_631 rfl (lv_at hl 1 rfl) ?_
      refine lv_iconst (v := (0 : Int32)) hx hb dL_isSo_632 (by decide) ?_
      obtain ⟨q68, hq68, hf⟩ := ob hf
      refine cl_RO (As := [.int (0 : Int32)]) (rest := []) hF hP hD hT (oq_count hT (0 : Int32) q68 hq68) (cwV 1 hts gL_isSo_X7_count rfl rfl rfl (by decide +kernel) ⟨(Nat.le_of_ble_eq_true rfl), (Nat.le_of_ble_eq_true rfl)⟩) rfl rfl hl.1 (Nat.le_of_ble_eq_true rfl) dL_isSo_633 ⟨Nat.zero_le _, Nat.zero_le _⟩ ?_
      refine lv_aload_n hx hb dL_isSo_636 rfl (lv_at hl 2 rfl) ?_
      refine lv_iconst (v := (0 : Int32)) hx hb dL_isSo_637 (by decide) ?_
      refine va_iald hx hb hK hP 0 0 rfl rfl (show ¬ ((0 : Int32) < 0 ∨ 15 ≤ (0 : Int32).toNatClampNeg) by decide) dL_isSo_638 ?_
      refine lv_icmp_ne (tgt := 749) hx hb dL_isSo_639 (by decide) (fun hc69 => ?_) (fun hc69 => ?_)
      · replace hf := ie hc69 hf
        refine lv_iconst (v := (0 : Int32)) hx hb dL_isSo_749 (by decide) ?_
        obtain rfl := Option.some.inj hf
        exact ret 750 ls _ dL_isSo_750 (by decide) rfl
      · replace hf := it hc69 hf
        refine lv_aload_n hx hb dL_isSo_642 rfl (lv_at hl 1 rfl) ?_
        refine lv_iconst (v := (1 : Int32)) hx hb dL_isSo_643 (by decide) ?_
        obtain ⟨q70, hq70, hf⟩ := ob hf
        refine cl_RO (As := [.int (1 : Int32)]) (rest := []) hF hP hD hT (oq_count hT (1 : Int32) q70 hq70) (cwV 1 hts gL_isSo_X7_count rfl rfl rfl (by decide +kernel) ⟨(Nat.le_of_ble_eq_true rfl), (Nat.le_of_ble_eq_true rfl)⟩) rfl rfl hl.1 (Nat.le_of_ble_eq_true rfl) dL_isSo_644 ⟨Nat.zero_le _, Nat.zero_le _⟩ ?_
        refine lv_aload_n hx hb dL_isSo_647 rfl (lv_at hl 2 rfl) ?_
        refine lv_iconst (v := (1 : Int32)) hx hb dL_isSo_648 (by decide) ?_
        refine va_iald hx hb hK hP 0 0 rfl rfl (show ¬ ((1 : Int32) < 0 ∨ 15 ≤ (1 : Int32).toNatClampNeg) by decide) dL_isSo_649 ?_
        refine lv_icmp_ne (tgt := 749) hx hb dL_isSo_650 (by decide) (fun hc71 => ?_) (fun hc71 => ?_)
        · replace hf := ie hc71 hf
          refine lv_iconst (v := (0 : Int32)) hx hb dL_isSo_749 (by decide) ?_
          obtain rfl := Option.some.inj hf
          exact ret 750 ls _ dL_isSo_750 (by decide) rfl
        · replace hf := it hc71 hf
          refine lv_aload_n hx hb dL_isSo_653 rfl (lv_at hl 1 rfl) ?_
          refine lv_iconst (v := (2 : Int32)) hx hb dL_isSo_654 (by decide) ?_
          obtain ⟨q72, hq72, hf⟩ := ob hf
          refine cl_RO (As := [.int (2 : Int32)]) (rest := []) hF hP hD hT (oq_count hT (2 : Int32) q72 hq72) (cwV 1 hts gL_isSo_X7_count rfl rfl rfl (by decide +kernel) ⟨(Nat.le_of_ble_eq_true rfl), (Nat.le_of_ble_eq_true rfl)⟩) rfl rfl hl.1 (Nat.le_of_ble_eq_true rfl) dL_isSo_655 ⟨Nat.zero_le _, Nat.zero_le _⟩ ?_
          refine lv_aload_n hx hb dL_isSo_658 rfl (lv_at hl 2 rfl) ?_
          refine lv_iconst (v := (2 : Int32)) hx hb dL_isSo_659 (by decide) ?_
          refine va_iald hx hb hK hP 0 0 rfl rfl (show ¬ ((2 : Int32) < 0 ∨ 15 ≤ (2 : Int32).toNatClampNeg) by decide) dL_isSo_660 ?_
          refine lv_icmp_ne (tgt := 749) hx hb dL_isSo_661 (by decide) (fun hc73 => ?_) (fun hc73 => ?_)
          · replace hf := ie hc73 hf
            refine lv_iconst (v := (0 : Int32)) hx hb dL_isSo_749 (by decide) ?_
            obtain rfl := Option.some.inj hf
            exact ret 750 ls _ dL_isSo_750 (by decide) rfl
          · replace hf := it hc73 hf
            refine lv_aload_n hx hb dL_isSo_664 rfl (lv_at hl 1 rfl) ?_
            refine lv_iconst (v := (3 : Int32)) hx hb dL_isSo_665 (by decide) ?_
            obtain ⟨q74, hq74, hf⟩ := ob hf
            refine cl_RO (As := [.int (3 : Int32)]) (rest := []) hF hP hD hT (oq_count hT (3 : Int32) q74 hq74) (cwV 1 hts gL_isSo_X7_count rfl rfl rfl (by decide +kernel) ⟨(Nat.le_of_ble_eq_true rfl), (Nat.le_of_ble_eq_true rfl)⟩) rfl rfl hl.1 (Nat.le_of_ble_eq_true rfl) dL_isSo_666 ⟨Nat.zero_le _, Nat.zero_le _⟩ ?_
            refine lv_aload_n hx hb dL_isSo_669 rfl (lv_at hl 2 rfl) ?_
            refine lv_iconst (v := (3 : Int32)) hx hb dL_isSo_670 (by decide) ?_
            refine va_iald hx hb hK hP 0 0 rfl rfl (show ¬ ((3 : Int32) < 0 ∨ 15 ≤ (3 : Int32).toNatClampNeg) by decide) dL_isSo_671 ?_
            refine lv_icmp_ne (tgt := 749) hx hb dL_isSo_672 (by decide) (fun hc75 => ?_) (fun hc75 => ?_)
            · replace hf := ie hc75 hf
              refine lv_iconst (v := (0 : Int32)) hx hb dL_isSo_749 (by decide) ?_
              obtain rfl := Option.some.inj hf
              exact ret 750 ls _ dL_isSo_750 (by decide) rfl
            · replace hf := it hc75 hf
              refine lv_aload_n hx hb dL_isSo_675 rfl (lv_at hl 1 rfl) ?_
              refine lv_iconst (v := (4 : Int32)) hx hb dL_isSo_676 (by decide) ?_
              obtain ⟨q76, hq76, hf⟩ := ob hf
              refine cl_RO (As := [.int (4 : Int32)]) (rest := []) hF hP hD hT (oq_count hT (4 : Int32) q76 hq76) (cwV 1 hts gL_isSo_X7_count rfl rfl rfl (by decide +kernel) ⟨(Nat.le_of_ble_eq_true rfl), (Nat.le_of_ble_eq_true rfl)⟩) rfl rfl hl.1 (Nat.le_of_ble_eq_true rfl) dL_isSo_677 ⟨Nat.zero_le _, Nat.zero_le _⟩ ?_
              refine lv_aload_n hx hb dL_isSo_680 rfl (lv_at hl 2 rfl) ?_
              refine lv_iconst (v := (4 : Int32)) hx hb dL_isSo_681 (by decide) ?_
              refine va_iald hx hb hK hP 0 0 rfl rfl (show ¬ ((4 : Int32) < 0 ∨ 15 ≤ (4 : Int32).toNatClampNeg) by decide) dL_isSo_682 ?_
              refine lv_icmp_ne (tgt := 749) hx hb dL_isSo_683 (by decide) (fun hc77 => ?_) (fun hc77 => ?_)
              · replace hf := ie hc77 hf
                refine lv_iconst (v := (0 : Int32)) hx hb dL_isSo_749 (by decide) ?_
                obtain rfl := Option.some.inj hf
                exact ret 750 ls _ dL_isSo_750 (by decide) rfl
              · replace hf := it hc77 hf
                refine lv_aload_n hx hb dL_isSo_686 rfl (lv_at hl 1 rfl) ?_
                refine lv_iconst (v := (5 : Int32)) hx hb dL_isSo_687 (by decide) ?_
                obtain ⟨q78, hq78, hf⟩ := ob hf
                refine cl_RO (As := [.int (5 : Int32)]) (rest := []) hF hP hD hT (oq_count hT (5 : Int32) q78 hq78) (cwV 1 hts gL_isSo_X7_count rfl rfl rfl (by decide +kernel) ⟨(Nat.le_of_ble_eq_true rfl), (Nat.le_of_ble_eq_true rfl)⟩) rfl rfl hl.1 (Nat.le_of_ble_eq_true rfl) dL_isSo_688 ⟨Nat.zero_le _, Nat.zero_le _⟩ ?_
                refine lv_aload_n hx hb dL_isSo_691 rfl (lv_at hl 2 rfl) ?_
                refine lv_aload_n hx hb dL_isSo_692 rfl (lv_at hl 3 rfl) ?_
                obtain ⟨q79, hq79, hf⟩ := ob hf
                refine cl_RSL (X0 := [(bg, .inl (cI, 15, .inl vg)), (bu, .inl (cI, 8, .inl vu)), (bh, .inl (cI, 12, .inl vh)), (bc, .inl (cI, 64, .inl vc)), (be, .inl (cI, 64, .inl ve)), (bt, .inl (cI, 36, .inl vt)), (bx, .inl (cI, 48, .inl vx))]) (As := [.ref bg, .ref bh]) (rest := [.int q78]) hF hP hD (c_L_hopper bg bh vg vh q79 hq79) (va_cwS 2 hts gL_isSo_L_hopper rfl rfl rfl (by decide +kernel) ⟨(Nat.le_of_ble_eq_true rfl), (Nat.le_of_ble_eq_true rfl)⟩) [0, 2] rfl (by decide +kernel) rfl rfl hl.1 (Nat.le_of_ble_eq_true rfl) dL_isSo_693 ⟨Nat.zero_le _, Nat.zero_le _⟩ ?_
                refine lv_icmp_ne (tgt := 749) hx hb dL_isSo_696 (by decide) (fun hc80 => ?_) (fun hc80 => ?_)
                · replace hf := ie hc80 hf
                  refine lv_iconst (v := (0 : Int32)) hx hb dL_isSo_749 (by decide) ?_
                  obtain rfl := Option.some.inj hf
                  exact ret 750 ls _ dL_isSo_750 (by decide) rfl
                · replace hf := it hc80 hf
                  refine lv_aload_n hx hb dL_isSo_699 rfl (lv_at hl 1 rfl) ?_
                  refine lv_bipush (v := (8 : Int32)) hx hb dL_isSo_700 (by decide) ?_
                  obtain ⟨q81, hq81, hf⟩ := ob hf
                  refine cl_RO (As := [.int (8 : Int32)]) (rest := []) hF hP hD hT (oq_count hT (8 : Int32) q81 hq81) (cwV 1 hts gL_isSo_X7_count rfl rfl rfl (by decide +kernel) ⟨(Nat.le_of_ble_eq_true rfl), (Nat.le_of_ble_eq_true rfl)⟩) rfl rfl hl.1 (Nat.le_of_ble_eq_true rfl) dL_isSo_702 ⟨Nat.zero_le _, Nat.zero_le _⟩ ?_
                  refine lv_aload_n hx hb dL_isSo_705 rfl (lv_at hl 2 rfl) ?_
                  refine lv_iconst (v := (5 : Int32)) hx hb dL_isSo_706 (by decide) ?_
                  refine va_iald hx hb hK hP 0 0 rfl rfl (show ¬ ((5 : Int32) < 0 ∨ 15 ≤ (5 : Int32).toNatClampNeg) by decide) dL_isSo_707 ?_
                  refine lv_icmp_ne (tgt := 749) hx hb dL_isSo_708 (by decide) (fun hc82 => ?_) (fun hc82 => ?_)
                  · replace hf := ie hc82 hf
                    refine lv_iconst (v := (0 : Int32)) hx hb dL_isSo_749 (by decide) ?_
                    obtain rfl := Option.some.inj hf
                    exact ret 750 ls _ dL_isSo_750 (by decide) rfl
                  · replace hf := it hc82 hf
                    refine lv_aload_n hx hb dL_isSo_711 rfl (lv_at hl 1 rfl) ?_
                    refine lv_bipush (v := (9 : Int32)) hx hb dL_isSo_712 (by decide) ?_
                    obtain ⟨q83, hq83, hf⟩ := ob hf
                    refine cl_RO (As := [.int (9 : Int32)]) (rest := []) hF hP hD hT (oq_count hT (9 : Int32) q83 hq83) (cwV 1 hts gL_isSo_X7_count rfl rfl rfl (by decide +kernel) ⟨(Nat.le_of_ble_eq_true rfl), (Nat.le_of_ble_eq_true rfl)⟩) rfl rfl hl.1 (Nat.le_of_ble_eq_true rfl) dL_isSo_714 ⟨Nat.zero_le _, Nat.zero_le _⟩ ?_
                    refine lv_aload_n hx hb dL_isSo_717 rfl (lv_at hl 2 rfl) ?_
                    refine lv_bipush (v := (6 : Int32)) hx hb dL_isSo_718 (by decide) ?_
                    refine va_iald hx hb hK hP 0 0 rfl rfl (show ¬ ((6 : Int32) < 0 ∨ 15 ≤ (6 : Int32).toNatClampNeg) by decide) dL_isSo_720 ?_
                    refine lv_icmp_ne (tgt := 749) hx hb dL_isSo_721 (by decide) (fun hc84 => ?_) (fun hc84 => ?_)
                    · replace hf := ie hc84 hf
                      refine lv_iconst (v := (0 : Int32)) hx hb dL_isSo_749 (by decide) ?_
                      obtain rfl := Option.some.inj hf
                      exact ret 750 ls _ dL_isSo_750 (by decide) rfl
                    · replace hf := it hc84 hf
                      refine lv_aload_n hx hb dL_isSo_724 rfl (lv_at hl 1 rfl) ?_
                      refine lv_bipush (v := (11 : Int32)) hx hb dL_isSo_725 (by decide) ?_
                      obtain ⟨q85, hq85, hf⟩ := ob hf
                      refine cl_RO (As := [.int (11 : Int32)]) (rest := []) hF hP hD hT (oq_count hT (11 : Int32) q85 hq85) (cwV 1 hts gL_isSo_X7_count rfl rfl rfl (by decide +kernel) ⟨(Nat.le_of_ble_eq_true rfl), (Nat.le_of_ble_eq_true rfl)⟩) rfl rfl hl.1 (Nat.le_of_ble_eq_true rfl) dL_isSo_727 ⟨Nat.zero_le _, Nat.zero_le _⟩ ?_
                      refine lv_if_ne (tgt := 749) hx hb dL_isSo_730 (by decide) (fun hc86 => ?_) (fun hc86 => ?_)
                      · replace hf := ie hc86 hf
                        refine lv_iconst (v := (0 : Int32)) hx hb dL_isSo_749 (by decide) ?_
                        obtain rfl := Option.some.inj hf
                        exact ret 750 ls _ dL_isSo_750 (by decide) rfl
                      · replace hf := it hc86 hf
                        refine lv_aload_n hx hb dL_isSo_733 rfl (lv_at hl 1 rfl) ?_
                        refine lv_bipush (v := (12 : Int32)) hx hb dL_isSo_734 (by decide) ?_
                        refine lv_iconst (v := (0 : Int32)) hx hb dL_isSo_736 (by decide) ?_
                        obtain ⟨q87, hq87, hf⟩ := ob hf
                        refine cl_RO (As := [.int (12 : Int32), .int (0 : Int32)]) (rest := []) hF hP hD hT (oq_shotOf hT (12 : Int32) (0 : Int32) q87 hq87) (cwV 2 hts gL_isSo_X7_shotOf rfl rfl rfl (by decide +kernel) ⟨(Nat.le_of_ble_eq_true rfl), (Nat.le_of_ble_eq_true rfl)⟩) rfl rfl hl.1 (Nat.le_of_ble_eq_true rfl) dL_isSo_737 ⟨Nat.zero_le _, Nat.zero_le _⟩ ?_
                        refine lv_ldc hx hb hown k1_ dL_isSo_740 ?_
                        refine lv_icmp_ne (tgt := 749) hx hb dL_isSo_742 (by decide) (fun hc88 => ?_) (fun hc88 => ?_)
                        · replace hf := ie hc88 hf
                          refine lv_iconst (v := (0 : Int32)) hx hb dL_isSo_749 (by decide) ?_
                          obtain rfl := Option.some.inj hf
                          exact ret 750 ls _ dL_isSo_750 (by decide) rfl
                        · replace hf := it hc88 hf
                          refine lv_iconst (v := (1 : Int32)) hx hb dL_isSo_745 (by decide) ?_
                          refine lv_goto (tgt := 750) hx hb dL_isSo_746 (by decide) ?_
                          obtain rfl := Option.some.inj hf
                          exact ret 750 ls _ dL_isSo_750 (by decide) rfl
  have J623 : ∀ ls : Array Slot, lv_has ls 11 [(0, .ref t0), (1, .ref bg), (3, .ref bh)] → f_L_isSo_J623 vg vu vh vc ve vt vx og = some R → W p l e rmL_isSo s m args below meth c s.heap [] 0 0 Q (F0 m 623 ls []) := by
    intro  ls hl hf
    rw [f_L_isSo_J623] at hf
    refine lv_iconst (v := (0 : Int32)) hx hb dL_isSo_623 (by decide) ?_
    exact J624 (0 : Int32) ls (lv_sub hl [0, 1, 2] rfl) hf
  have J541 : ∀ (y8_541 : Int32), ∀ ls : Array Slot, lv_has ls 11 [(0, .ref t0), (1, .ref bg), (3, .ref bh), (8, .int y8_541)] → f_L_isSo_J541 vg vu vh vc ve vt vx og y8_541 = some R → W p l e rmL_isSo s m args below meth c s.heap [] 0 0 Q (F0 m 541 ls []) := by
    intro y8_541 ls hl hf
    rw [f_L_isSo_J541] at hf
    refine lv_iload hx hb dL_isSo_541 (lv_at hl 3 rfl) ?_
    refine lv_if_eq (tgt := 623) hx hb dL_isSo_543 (by decide) (fun hc47 => ?_) (fun hc47 => ?_)
    · replace hf := it hc47 hf
      exact J623  ls (lv_sub hl [0, 1, 2] rfl) hf
    · replace hf := ie hc47 hf
      refine lv_aload_n hx hb dL_isSo_546 rfl (lv_at hl 0 rfl) ?_
      refine lv_iconst (v := (2 : Int32)) hx hb dL_isSo_547 (by decide) ?_
      obtain ⟨q48, hq48, hf⟩ := ob hf
      refine cl_RO (As := [.int (2 : Int32)]) (rest := []) hF hP hD hT (oq_count hT (2 : Int32) q48 hq48) (cwV 1 hts gL_isSo_X7_count rfl rfl rfl (by decide +kernel) ⟨(Nat.le_of_ble_eq_true rfl), (Nat.le_of_ble_eq_true rfl)⟩) rfl rfl hl.1 (Nat.le_of_ble_eq_true rfl) dL_isSo_548 ⟨Nat.zero_le _, Nat.zero_le _⟩ ?_
      refine lv_aload_n hx hb dL_isSo_551 rfl (lv_at hl 0 rfl) ?_
      refine lv_iconst (v := (3 : Int32)) hx hb dL_isSo_552 (by decide) ?_
      obtain ⟨q49, hq49, hf⟩ := ob hf
      refine cl_RO (As := [.int (3 : Int32)]) (rest := [.int q48]) hF hP hD hT (oq_count hT (3 : Int32) q49 hq49) (cwV 1 hts gL_isSo_X7_count rfl rfl rfl (by decide +kernel) ⟨(Nat.le_of_ble_eq_true rfl), (Nat.le_of_ble_eq_true rfl)⟩) rfl rfl hl.1 (Nat.le_of_ble_eq_true rfl) dL_isSo_553 ⟨Nat.zero_le _, Nat.zero_le _⟩ ?_
      refine lv_aload_n hx hb dL_isSo_556 rfl (lv_at hl 0 rfl) ?_
      refine lv_iconst (v := (4 : Int32)) hx hb dL_isSo_557 (by decide) ?_
      obtain ⟨q50, hq50, hf⟩ := ob hf
      refine cl_RO (As := [.int (4 : Int32)]) (rest := [.int q49, .int q48]) hF hP hD hT (oq_count hT (4 : Int32) q50 hq50) (cwV 1 hts gL_isSo_X7_count rfl rfl rfl (by decide +kernel) ⟨(Nat.le_of_ble_eq_true rfl), (Nat.le_of_ble_eq_true rfl)⟩) rfl rfl hl.1 (Nat.le_of_ble_eq_true rfl) dL_isSo_558 ⟨Nat.zero_le _, Nat.zero_le _⟩ ?_
      refine lv_iadd hx hb dL_isSo_561 ?_
      refine lv_aload_n hx hb dL_isSo_562 rfl (lv_at hl 0 rfl) ?_
      refine lv_bipush (v := (6 : Int32)) hx hb dL_isSo_563 (by decide) ?_
      obtain ⟨q51, hq51, hf⟩ := ob hf
      refine cl_RO (As := [.int (6 : Int32)]) (rest := [.int (q49 + q50), .int q48]) hF hP hD hT (oq_count hT (6 : Int32) q51 hq51) (cwV 1 hts gL_isSo_X7_count rfl rfl rfl (by decide +kernel) ⟨(Nat.le_of_ble_eq_true rfl), (Nat.le_of_ble_eq_true rfl)⟩) rfl rfl hl.1 (Nat.le_of_ble_eq_true rfl) dL_isSo_565 ⟨Nat.zero_le _, Nat.zero_le _⟩ ?_
      refine lv_iadd hx hb dL_isSo_568 ?_
      refine lv_aload_n hx hb dL_isSo_569 rfl (lv_at hl 0 rfl) ?_
      refine lv_bipush (v := (7 : Int32)) hx hb dL_isSo_570 (by decide) ?_
      obtain ⟨q52, hq52, hf⟩ := ob hf
      refine cl_RO (As := [.int (7 : Int32)]) (rest := [.int ((q49 + q50) + q51), .int q48]) hF hP hD hT (oq_count hT (7 : Int32) q52 hq52) (cwV 1 hts gL_isSo_X7_count rfl rfl rfl (by decide +kernel) ⟨(Nat.le_of_ble_eq_true rfl), (Nat.le_of_ble_eq_true rfl)⟩) rfl rfl hl.1 (Nat.le_of_ble_eq_true rfl) dL_isSo_572 ⟨Nat.zero_le _, Nat.zero_le _⟩ ?_
      refine lv_iadd hx hb dL_isSo_575 ?_
      refine lv_icmp_ne (tgt := 623) hx hb dL_isSo_576 (by decide) (fun hc53 => ?_) (fun hc53 => ?_)
      · replace hf := ie hc53 hf
        exact J623  ls (lv_sub hl [0, 1, 2] rfl) hf
      · replace hf := it hc53 hf
        refine lv_aload_n hx hb dL_isSo_579 rfl (lv_at hl 0 rfl) ?_
        refine lv_iconst (v := (1 : Int32)) hx hb dL_isSo_580 (by decide) ?_
        obtain ⟨q54, hq54, hf⟩ := ob hf
        refine cl_RO (As := [.int (1 : Int32)]) (rest := []) hF hP hD hT (oq_count hT (1 : Int32) q54 hq54) (cwV 1 hts gL_isSo_X7_count rfl rfl rfl (by decide +kernel) ⟨(Nat.le_of_ble_eq_true rfl), (Nat.le_of_ble_eq_true rfl)⟩) rfl rfl hl.1 (Nat.le_of_ble_eq_true rfl) dL_isSo_581 ⟨Nat.zero_le _, Nat.zero_le _⟩ ?_
        refine lv_aload_n hx hb dL_isSo_584 rfl (lv_at hl 0 rfl) ?_
        refine lv_iconst (v := (2 : Int32)) hx hb dL_isSo_585 (by decide) ?_
        obtain ⟨q55, hq55, hf⟩ := ob hf
        refine cl_RO (As := [.int (2 : Int32)]) (rest := [.int q54]) hF hP hD hT (oq_count hT (2 : Int32) q55 hq55) (cwV 1 hts gL_isSo_X7_count rfl rfl rfl (by decide +kernel) ⟨(Nat.le_of_ble_eq_true rfl), (Nat.le_of_ble_eq_true rfl)⟩) rfl rfl hl.1 (Nat.le_of_ble_eq_true rfl) dL_isSo_586 ⟨Nat.zero_le _, Nat.zero_le _⟩ ?_
        refine lv_aload_n hx hb dL_isSo_589 rfl (lv_at hl 0 rfl) ?_
        refine lv_iconst (v := (5 : Int32)) hx hb dL_isSo_590 (by decide) ?_
        obtain ⟨q56, hq56, hf⟩ := ob hf
        refine cl_RO (As := [.int (5 : Int32)]) (rest := [.int q55, .int q54]) hF hP hD hT (oq_count hT (5 : Int32) q56 hq56) (cwV 1 hts gL_isSo_X7_count rfl rfl rfl (by decide +kernel) ⟨(Nat.le_of_ble_eq_true rfl), (Nat.le_of_ble_eq_true rfl)⟩) rfl rfl hl.1 (Nat.le_of_ble_eq_true rfl) dL_isSo_591 ⟨Nat.zero_le _, Nat.zero_le _⟩ ?_
        refine lv_iadd hx hb dL_isSo_594 ?_
        refine lv_icmp_ne (tgt := 623) hx hb dL_isSo_595 (by decide) (fun hc57 => ?_) (fun hc57 => ?_)
        · replace hf := ie hc57 hf
          exact J623  ls (lv_sub hl [0, 1, 2] rfl) hf
        · replace hf := it hc57 hf
          refine lv_aload_n hx hb dL_isSo_598 rfl (lv_at hl 0 rfl) ?_
          refine lv_iconst (v := (0 : Int32)) hx hb dL_isSo_599 (by decide) ?_
          refine lv_iconst (v := (3 : Int32)) hx hb dL_isSo_600 (by decide) ?_
          obtain ⟨q58, hq58, hf⟩ := ob hf
          refine cl_RO (As := [.int (0 : Int32), .int (3 : Int32)]) (rest := []) hF hP hD hT (oq_burrOf hT (0 : Int32) (3 : Int32) q58 hq58) (cwV 2 hts gL_isSo_X7_burrOf rfl rfl rfl (by decide +kernel) ⟨(Nat.le_of_ble_eq_true rfl), (Nat.le_of_ble_eq_true rfl)⟩) rfl rfl hl.1 (Nat.le_of_ble_eq_true rfl) dL_isSo_601 ⟨Nat.zero_le _, Nat.zero_le _⟩ ?_
          refine lv_aload_n hx hb dL_isSo_604 rfl (lv_at hl 0 rfl) ?_
          refine lv_iconst (v := (1 : Int32)) hx hb dL_isSo_605 (by decide) ?_
          refine lv_iconst (v := (3 : Int32)) hx hb dL_isSo_606 (by decide) ?_
          obtain ⟨q59, hq59, hf⟩ := ob hf
          refine cl_RO (As := [.int (1 : Int32), .int (3 : Int32)]) (rest := [.int q58]) hF hP hD hT (oq_burrOf hT (1 : Int32) (3 : Int32) q59 hq59) (cwV 2 hts gL_isSo_X7_burrOf rfl rfl rfl (by decide +kernel) ⟨(Nat.le_of_ble_eq_true rfl), (Nat.le_of_ble_eq_true rfl)⟩) rfl rfl hl.1 (Nat.le_of_ble_eq_true rfl) dL_isSo_607 ⟨Nat.zero_le _, Nat.zero_le _⟩ ?_
          refine lv_iadd hx hb dL_isSo_610 ?_
          refine lv_aload_n hx hb dL_isSo_611 rfl (lv_at hl 0 rfl) ?_
          refine lv_iconst (v := (2 : Int32)) hx hb dL_isSo_612 (by decide) ?_
          obtain ⟨q60, hq60, hf⟩ := ob hf
          refine cl_RO (As := [.int (2 : Int32)]) (rest := [.int (q58 + q59)]) hF hP hD hT (oq_count hT (2 : Int32) q60 hq60) (cwV 1 hts gL_isSo_X7_count rfl rfl rfl (by decide +kernel) ⟨(Nat.le_of_ble_eq_true rfl), (Nat.le_of_ble_eq_true rfl)⟩) rfl rfl hl.1 (Nat.le_of_ble_eq_true rfl) dL_isSo_613 ⟨Nat.zero_le _, Nat.zero_le _⟩ ?_
          refine lv_icmp_ne (tgt := 623) hx hb dL_isSo_616 (by decide) (fun hc61 => ?_) (fun hc61 => ?_)
          · replace hf := ie hc61 hf
            exact J623  ls (lv_sub hl [0, 1, 2] rfl) hf
          · replace hf := it hc61 hf
            refine lv_iconst (v := (1 : Int32)) hx hb dL_isSo_619 (by decide) ?_
            refine lv_goto (tgt := 624) hx hb dL_isSo_620 (by decide) ?_
            exact J624 (1 : Int32) ls (lv_sub hl [0, 1, 2] rfl) hf
  have L497 : ∀ n497 : Nat, ∀ (y8_497 : Int32) (y9_497 : Int32), ∀ ls : Array Slot, lv_has ls 11 [(0, .ref t0), (1, .ref bg), (3, .ref bh), (8, .int y8_497), (9, .int y9_497)] → f_L_isSo_L497 vg vu vh vc ve vt vx og n497 y8_497 y9_497 = some R → W p l e rmL_isSo s m args below meth c s.heap [] 0 0 Q (F0 m 497 ls []) := by
    intro n497
    induction n497 with
    | zero => intro y8_497 y9_497 ls hl hf; rw [f_L_isSo_L497] at hf; cases hf
    | succ n497 IH497 =>
      intro y8_497 y9_497 ls hl hf
      have J533 : ∀ (y9_533 : Int32) (z0_533 : Int32), ∀ ls : Array Slot, lv_has ls 11 [(0, .ref t0), (1, .ref bg), (3, .ref bh), (9, .int y9_533)] → f_L_isSo_J533 (f_L_isSo_L497 vg vu vh vc ve vt vx og n497) vg vu vh vc ve vt vx og y9_533 z0_533 = some R → W p l e rmL_isSo s m args below meth c s.heap [] 0 0 Q (F0 m 533 ls [.int z0_533]) := by
        intro y9_533 z0_533 ls hl hf
        rw [f_L_isSo_J533] at hf
        refine lv_istore (lv' := [(8, .int z0_533), (0, .ref t0), (1, .ref bg), (3, .ref bh), (9, .int y9_533)]) hx hb dL_isSo_533 hl (by decide) rfl (fun ls hl => ?_)
        obtain ⟨v62, ev62⟩ : ∃ z : Int32, z = y9_533 + (1 : Int32) := ⟨_, rfl⟩
        replace hf := lt_e ev62 hf
        refine lv_iinc (v := v62) (lv' := [(9, .int v62), (8, .int z0_533), (0, .ref t0), (1, .ref bg), (3, .ref bh)]) hx hb dL_isSo_535 hl (k := 4) rfl (by rw [ev62]; rfl) (by decide) rfl (fun ls hl => ?_)
        refine lv_goto (tgt := 497) hx hb dL_isSo_538 (by decide) ?_
        exact IH497 z0_533 v62 ls (lv_sub hl [2, 3, 4, 1, 0] rfl) hf
      rw [f_L_isSo_L497] at hf
      refine lv_iload hx hb dL_isSo_497 (lv_at hl 4 rfl) ?_
      refine lv_bipush (v := (6 : Int32)) hx hb dL_isSo_499 (by decide) ?_
      refine lv_icmp_ge (tgt := 541) hx hb dL_isSo_501 (by decide) (fun hc38 => ?_) (fun hc38 => ?_)
      · replace hf := it hc38 hf
        exact J541 y8_497 ls (lv_sub hl [0, 1, 2, 3] rfl) hf
      · replace hf := ie hc38 hf
        refine lv_iload hx hb dL_isSo_504 (lv_at hl 3 rfl) ?_
        refine lv_if_eq (tgt := 541) hx hb dL_isSo_506 (by decide) (fun hc39 => ?_) (fun hc39 => ?_)
        · replace hf := it hc39 hf
          exact J541 y8_497 ls (lv_sub hl [0, 1, 2, 3] rfl) hf
        · replace hf := ie hc39 hf
          refine lv_aload_n hx hb dL_isSo_509 rfl (lv_at hl 0 rfl) ?_
          refine lv_bipush (v := (20 : Int32)) hx hb dL_isSo_510 (by decide) ?_
          refine lv_iload hx hb dL_isSo_512 (lv_at hl 4 rfl) ?_
          refine lv_iadd hx hb dL_isSo_514 ?_
          obtain ⟨q40, hq40, hf⟩ := ob hf
          refine cl_RO (As := [.int ((20 : Int32) + y9_497)]) (rest := []) hF hP hD hT (oq_count hT ((20 : Int32) + y9_497) q40 hq40) (cwV 1 hts gL_isSo_X7_count rfl rfl rfl (by decide +kernel) ⟨(Nat.le_of_ble_eq_true rfl), (Nat.le_of_ble_eq_true rfl)⟩) rfl rfl hl.1 (Nat.le_of_ble_eq_true rfl) dL_isSo_515 ⟨Nat.zero_le _, Nat.zero_le _⟩ ?_
          refine lv_aload_n hx hb dL_isSo_518 rfl (lv_at hl 1 rfl) ?_
          refine lv_bipush (v := (7 : Int32)) hx hb dL_isSo_519 (by decide) ?_
          refine lv_iload hx hb dL_isSo_521 (lv_at hl 4 rfl) ?_
          refine lv_iadd hx hb dL_isSo_523 ?_
          obtain ⟨hg41, hf⟩ := gd_s hf
          refine va_iald hx hb hK hP 0 0 rfl rfl hg41 dL_isSo_524 ?_
          refine lv_icmp_ne (tgt := 532) hx hb dL_isSo_525 (by decide) (fun hc42 => ?_) (fun hc42 => ?_)
          · replace hf := ie hc42 hf
            refine lv_iconst (v := (0 : Int32)) hx hb dL_isSo_532 (by decide) ?_
            exact J533 y9_497 (0 : Int32) ls (lv_sub hl [0, 1, 2, 4] rfl) hf
          · replace hf := it hc42 hf
            refine lv_iconst (v := (1 : Int32)) hx hb dL_isSo_528 (by decide) ?_
            refine lv_goto (tgt := 533) hx hb dL_isSo_529 (by decide) ?_
            exact J533 y9_497 (1 : Int32) ls (lv_sub hl [0, 1, 2, 4] rfl) hf
  have J494 : ∀ (y8_494 : Int32), ∀ ls : Array Slot, lv_has ls 11 [(0, .ref t0), (1, .ref bg), (3, .ref bh), (8, .int y8_494)] → f_L_isSo_J494 vg vu vh vc ve vt vx og y8_494 = some R → W p l e rmL_isSo s m args below meth c s.heap [] 0 0 Q (F0 m 494 ls []) := by
    intro y8_494 ls hl hf
    rw [f_L_isSo_J494] at hf
    refine lv_iconst (v := (0 : Int32)) hx hb dL_isSo_494 (by decide) ?_
    refine lv_istore (lv' := [(9, .int (0 : Int32)), (0, .ref t0), (1, .ref bg), (3, .ref bh), (8, .int y8_494)]) hx hb dL_isSo_495 hl (by decide) rfl (fun ls hl => ?_)
    exact L497 FU y8_494 (0 : Int32) ls (lv_sub hl [1, 2, 3, 4, 0] rfl) hf
  have L219 : ∀ n219 : Nat, ∀ (y8_219 : Int32) (y9_219 : Int32), ∀ ls : Array Slot, lv_has ls 11 [(0, .ref t0), (1, .ref bg), (3, .ref bh), (6, .ref bt), (7, .ref bx), (8, .int y8_219), (9, .int y9_219)] → f_L_isSo_L219 vg vu vh vc ve vt vx og n219 y8_219 y9_219 = some R → W p l e rmL_isSo s m args below meth c s.heap [] 0 0 Q (F0 m 219 ls []) := by
    intro n219
    induction n219 with
    | zero => intro y8_219 y9_219 ls hl hf; rw [f_L_isSo_L219] at hf; cases hf
    | succ n219 IH219 =>
      intro y8_219 y9_219 ls hl hf
      have J486 : ∀ (y9_486 : Int32) (z0_486 : Int32), ∀ ls : Array Slot, lv_has ls 11 [(0, .ref t0), (1, .ref bg), (3, .ref bh), (6, .ref bt), (7, .ref bx), (9, .int y9_486)] → f_L_isSo_J486 (f_L_isSo_L219 vg vu vh vc ve vt vx og n219) vg vu vh vc ve vt vx og y9_486 z0_486 = some R → W p l e rmL_isSo s m args below meth c s.heap [] 0 0 Q (F0 m 486 ls [.int z0_486]) := by
        intro y9_486 z0_486 ls hl hf
        rw [f_L_isSo_J486] at hf
        refine lv_istore (lv' := [(8, .int z0_486), (0, .ref t0), (1, .ref bg), (3, .ref bh), (6, .ref bt), (7, .ref bx), (9, .int y9_486)]) hx hb dL_isSo_486 hl (by decide) rfl (fun ls hl => ?_)
        obtain ⟨v89, ev89⟩ : ∃ z : Int32, z = y9_486 + (1 : Int32) := ⟨_, rfl⟩
        replace hf := lt_e ev89 hf
        refine lv_iinc (v := v89) (lv' := [(9, .int v89), (8, .int z0_486), (0, .ref t0), (1, .ref bg), (3, .ref bh), (6, .ref bt), (7, .ref bx)]) hx hb dL_isSo_488 hl (k := 6) rfl (by rw [ev89]; rfl) (by decide) rfl (fun ls hl => ?_)
        refine lv_goto (tgt := 219) hx hb dL_isSo_491 (by decide) ?_
        exact IH219 z0_486 v89 ls (lv_sub hl [2, 3, 4, 5, 6, 1, 0] rfl) hf
      have J485 : ∀ (y9_485 : Int32), ∀ ls : Array Slot, lv_has ls 11 [(0, .ref t0), (1, .ref bg), (3, .ref bh), (6, .ref bt), (7, .ref bx), (9, .int y9_485)] → f_L_isSo_J485 (f_L_isSo_L219 vg vu vh vc ve vt vx og n219) vg vu vh vc ve vt vx og y9_485 = some R → W p l e rmL_isSo s m args below meth c s.heap [] 0 0 Q (F0 m 485 ls []) := by
        intro y9_485 ls hl hf
        rw [f_L_isSo_J485] at hf
        refine lv_iconst (v := (0 : Int32)) hx hb dL_isSo_485 (by decide) ?_
        exact J486 y9_485 (0 : Int32) ls (lv_sub hl [0, 1, 2, 3, 4, 5] rfl) hf
      have J478 : ∀ (y9_478 : Int32) (z0_478 : Int32) (z1_478 : Int32), ∀ ls : Array Slot, lv_has ls 11 [(0, .ref t0), (1, .ref bg), (3, .ref bh), (6, .ref bt), (7, .ref bx), (9, .int y9_478)] → f_L_isSo_J478 (f_L_isSo_L219 vg vu vh vc ve vt vx og n219) vg vu vh vc ve vt vx og y9_478 z0_478 z1_478 = some R → W p l e rmL_isSo s m args below meth c s.heap [] 0 0 Q (F0 m 478 ls [.int z0_478, .int z1_478]) := by
        intro y9_478 z0_478 z1_478 ls hl hf
        rw [f_L_isSo_J478] at hf
        refine lv_icmp_ne (tgt := 485) hx hb dL_isSo_478 (by decide) (fun hc111 => ?_) (fun hc111 => ?_)
        · replace hf := ie hc111 hf
          exact J485 y9_478 ls (lv_sub hl [0, 1, 2, 3, 4, 5] rfl) hf
        · replace hf := it hc111 hf
          refine lv_iconst (v := (1 : Int32)) hx hb dL_isSo_481 (by decide) ?_
          refine lv_goto (tgt := 486) hx hb dL_isSo_482 (by decide) ?_
          exact J486 y9_478 (1 : Int32) ls (lv_sub hl [0, 1, 2, 3, 4, 5] rfl) hf
      have J448 : ∀ (y9_448 : Int32) (y10_448 : Int32) (z0_448 : Int32) (z1_448 : Int32), ∀ ls : Array Slot, lv_has ls 11 [(0, .ref t0), (1, .ref bg), (3, .ref bh), (6, .ref bt), (7, .ref bx), (9, .int y9_448), (10, .int y10_448)] → f_L_isSo_J448 (f_L_isSo_L219 vg vu vh vc ve vt vx og n219) vg vu vh vc ve vt vx og y9_448 y10_448 z0_448 z1_448 = some R → W p l e rmL_isSo s m args below meth c s.heap [] 0 0 Q (F0 m 448 ls [.int z0_448, .int z1_448]) := by
        intro y9_448 y10_448 z0_448 z1_448 ls hl hf
        rw [f_L_isSo_J448] at hf
        refine lv_icmp_ne (tgt := 485) hx hb dL_isSo_448 (by decide) (fun hc107 => ?_) (fun hc107 => ?_)
        · replace hf := ie hc107 hf
          exact J485 y9_448 ls (lv_sub hl [0, 1, 2, 3, 4, 5] rfl) hf
        · replace hf := it hc107 hf
          refine lv_aload_n hx hb dL_isSo_451 rfl (lv_at hl 0 rfl) ?_
          refine lv_iload hx hb dL_isSo_452 (lv_at hl 5 rfl) ?_
          refine lv_bipush (v := (7 : Int32)) hx hb dL_isSo_454 (by decide) ?_
          obtain ⟨q108, hq108, hf⟩ := ob hf
          refine cl_RO (As := [.int y9_448, .int (7 : Int32)]) (rest := []) hF hP hD hT (oq_shotOf hT y9_448 (7 : Int32) q108 hq108) (cwV 2 hts gL_isSo_X7_shotOf rfl rfl rfl (by decide +kernel) ⟨(Nat.le_of_ble_eq_true rfl), (Nat.le_of_ble_eq_true rfl)⟩) rfl rfl hl.1 (Nat.le_of_ble_eq_true rfl) dL_isSo_456 ⟨Nat.zero_le _, Nat.zero_le _⟩ ?_
          refine lv_iload hx hb dL_isSo_459 (lv_at hl 6 rfl) ?_
          refine lv_if_eq (tgt := 476) hx hb dL_isSo_461 (by decide) (fun hc109 => ?_) (fun hc109 => ?_)
          · replace hf := it hc109 hf
            refine lv_ldc hx hb hown k1_ dL_isSo_476 ?_
            exact J478 y9_448 (-1000004 : Int32) q108 ls (lv_sub hl [0, 1, 2, 3, 4, 5] rfl) hf
          · replace hf := ie hc109 hf
            refine lv_aload hx hb dL_isSo_464 (lv_at hl 4 rfl) ?_
            refine lv_iconst (v := (4 : Int32)) hx hb dL_isSo_466 (by decide) ?_
            refine lv_iload hx hb dL_isSo_467 (lv_at hl 5 rfl) ?_
            refine lv_imul hx hb dL_isSo_469 ?_
            refine lv_iconst (v := (3 : Int32)) hx hb dL_isSo_470 (by decide) ?_
            refine lv_iadd hx hb dL_isSo_471 ?_
            obtain ⟨hg110, hf⟩ := gd_s hf
            refine va_iald hx hb hK hP 6 0 rfl rfl hg110 dL_isSo_472 ?_
            refine lv_goto (tgt := 478) hx hb dL_isSo_473 (by decide) ?_
            exact J478 y9_448 (vx (((4 : Int32) * y9_448) + (3 : Int32)).toNatClampNeg) q108 ls (lv_sub hl [0, 1, 2, 3, 4, 5] rfl) hf
      have J418 : ∀ (y9_418 : Int32) (y10_418 : Int32) (z0_418 : Int32) (z1_418 : Int32), ∀ ls : Array Slot, lv_has ls 11 [(0, .ref t0), (1, .ref bg), (3, .ref bh), (6, .ref bt), (7, .ref bx), (9, .int y9_418), (10, .int y10_418)] → f_L_isSo_J418 (f_L_isSo_L219 vg vu vh vc ve vt vx og n219) vg vu vh vc ve vt vx og y9_418 y10_418 z0_418 z1_418 = some R → W p l e rmL_isSo s m args below meth c s.heap [] 0 0 Q (F0 m 418 ls [.int z0_418, .int z1_418]) := by
        intro y9_418 y10_418 z0_418 z1_418 ls hl hf
        rw [f_L_isSo_J418] at hf
        refine lv_icmp_ne (tgt := 485) hx hb dL_isSo_418 (by decide) (fun hc103 => ?_) (fun hc103 => ?_)
        · replace hf := ie hc103 hf
          exact J485 y9_418 ls (lv_sub hl [0, 1, 2, 3, 4, 5] rfl) hf
        · replace hf := it hc103 hf
          refine lv_aload_n hx hb dL_isSo_421 rfl (lv_at hl 0 rfl) ?_
          refine lv_iload hx hb dL_isSo_422 (lv_at hl 5 rfl) ?_
          refine lv_bipush (v := (6 : Int32)) hx hb dL_isSo_424 (by decide) ?_
          obtain ⟨q104, hq104, hf⟩ := ob hf
          refine cl_RO (As := [.int y9_418, .int (6 : Int32)]) (rest := []) hF hP hD hT (oq_shotOf hT y9_418 (6 : Int32) q104 hq104) (cwV 2 hts gL_isSo_X7_shotOf rfl rfl rfl (by decide +kernel) ⟨(Nat.le_of_ble_eq_true rfl), (Nat.le_of_ble_eq_true rfl)⟩) rfl rfl hl.1 (Nat.le_of_ble_eq_true rfl) dL_isSo_426 ⟨Nat.zero_le _, Nat.zero_le _⟩ ?_
          refine lv_iload hx hb dL_isSo_429 (lv_at hl 6 rfl) ?_
          refine lv_if_eq (tgt := 446) hx hb dL_isSo_431 (by decide) (fun hc105 => ?_) (fun hc105 => ?_)
          · replace hf := it hc105 hf
            refine lv_ldc hx hb hown k1_ dL_isSo_446 ?_
            exact J448 y9_418 y10_418 (-1000004 : Int32) q104 ls (lv_sub hl [0, 1, 2, 3, 4, 5, 6] rfl) hf
          · replace hf := ie hc105 hf
            refine lv_aload hx hb dL_isSo_434 (lv_at hl 4 rfl) ?_
            refine lv_iconst (v := (4 : Int32)) hx hb dL_isSo_436 (by decide) ?_
            refine lv_iload hx hb dL_isSo_437 (lv_at hl 5 rfl) ?_
            refine lv_imul hx hb dL_isSo_439 ?_
            refine lv_iconst (v := (2 : Int32)) hx hb dL_isSo_440 (by decide) ?_
            refine lv_iadd hx hb dL_isSo_441 ?_
            obtain ⟨hg106, hf⟩ := gd_s hf
            refine va_iald hx hb hK hP 6 0 rfl rfl hg106 dL_isSo_442 ?_
            refine lv_goto (tgt := 448) hx hb dL_isSo_443 (by decide) ?_
            exact J448 y9_418 y10_418 (vx (((4 : Int32) * y9_418) + (2 : Int32)).toNatClampNeg) q104 ls (lv_sub hl [0, 1, 2, 3, 4, 5, 6] rfl) hf
      have J385 : ∀ (y9_385 : Int32) (y10_385 : Int32) (z0_385 : Int32) (z1_385 : Int32), ∀ ls : Array Slot, lv_has ls 11 [(0, .ref t0), (1, .ref bg), (3, .ref bh), (6, .ref bt), (7, .ref bx), (9, .int y9_385), (10, .int y10_385)] → f_L_isSo_J385 (f_L_isSo_L219 vg vu vh vc ve vt vx og n219) vg vu vh vc ve vt vx og y9_385 y10_385 z0_385 z1_385 = some R → W p l e rmL_isSo s m args below meth c s.heap [] 0 0 Q (F0 m 385 ls [.int z0_385, .int z1_385]) := by
        intro y9_385 y10_385 z0_385 z1_385 ls hl hf
        rw [f_L_isSo_J385] at hf
        refine lv_icmp_ne (tgt := 485) hx hb dL_isSo_385 (by decide) (fun hc98 => ?_) (fun hc98 => ?_)
        · replace hf := ie hc98 hf
          exact J485 y9_385 ls (lv_sub hl [0, 1, 2, 3, 4, 5] rfl) hf
        · replace hf := it hc98 hf
          refine lv_aload_n hx hb dL_isSo_388 rfl (lv_at hl 0 rfl) ?_
          refine lv_iload hx hb dL_isSo_389 (lv_at hl 5 rfl) ?_
          refine lv_iconst (v := (5 : Int32)) hx hb dL_isSo_391 (by decide) ?_
          obtain ⟨q99, hq99, hf⟩ := ob hf
          refine cl_RO (As := [.int y9_385, .int (5 : Int32)]) (rest := []) hF hP hD hT (oq_shotOf hT y9_385 (5 : Int32) q99 hq99) (cwV 2 hts gL_isSo_X7_shotOf rfl rfl rfl (by decide +kernel) ⟨(Nat.le_of_ble_eq_true rfl), (Nat.le_of_ble_eq_true rfl)⟩) rfl rfl hl.1 (Nat.le_of_ble_eq_true rfl) dL_isSo_392 ⟨Nat.zero_le _, Nat.zero_le _⟩ ?_
          refine lv_iload hx hb dL_isSo_395 (lv_at hl 6 rfl) ?_
          refine lv_if_eq (tgt := 416) hx hb dL_isSo_397 (by decide) (fun hc100 => ?_) (fun hc100 => ?_)
          · replace hf := it hc100 hf
            refine lv_ldc hx hb hown k1_ dL_isSo_416 ?_
            exact J418 y9_385 y10_385 (-1000004 : Int32) q99 ls (lv_sub hl [0, 1, 2, 3, 4, 5, 6] rfl) hf
          · replace hf := ie hc100 hf
            refine lv_aload_n hx hb dL_isSo_400 rfl (lv_at hl 1 rfl) ?_
            refine lv_aload hx hb dL_isSo_401 (lv_at hl 3 rfl) ?_
            refine lv_iconst (v := (3 : Int32)) hx hb dL_isSo_403 (by decide) ?_
            refine lv_iload hx hb dL_isSo_404 (lv_at hl 5 rfl) ?_
            refine lv_imul hx hb dL_isSo_406 ?_
            refine lv_iconst (v := (1 : Int32)) hx hb dL_isSo_407 (by decide) ?_
            refine lv_iadd hx hb dL_isSo_408 ?_
            obtain ⟨hg101, hf⟩ := gd_s hf
            refine va_iald hx hb hK hP 5 0 rfl rfl hg101 dL_isSo_409 ?_
            obtain ⟨q102, hq102, hf⟩ := ob hf
            refine cl_RSL (X0 := [(bg, .inl (cI, 15, .inl vg)), (bu, .inl (cI, 8, .inl vu)), (bh, .inl (cI, 12, .inl vh)), (bc, .inl (cI, 64, .inl vc)), (be, .inl (cI, 64, .inl ve)), (bt, .inl (cI, 36, .inl vt)), (bx, .inl (cI, 48, .inl vx))]) (As := [.ref bg, .int (vt (((3 : Int32) * y9_385) + (1 : Int32)).toNatClampNeg)]) (rest := [.int q99]) hF hP hD (c_L_away bg (vt (((3 : Int32) * y9_385) + (1 : Int32)).toNatClampNeg) vg q102 hq102) (va_cwS 2 hts gL_isSo_L_away rfl rfl rfl (by decide +kernel) ⟨(Nat.le_of_ble_eq_true rfl), (Nat.le_of_ble_eq_true rfl)⟩) [0] rfl (by decide +kernel) rfl rfl hl.1 (Nat.le_of_ble_eq_true rfl) dL_isSo_410 ⟨Nat.zero_le _, Nat.zero_le _⟩ ?_
            refine lv_goto (tgt := 418) hx hb dL_isSo_413 (by decide) ?_
            exact J418 y9_385 y10_385 q102 q99 ls (lv_sub hl [0, 1, 2, 3, 4, 5, 6] rfl) hf
      have J356 : ∀ (y9_356 : Int32) (y10_356 : Int32) (z0_356 : Int32) (z1_356 : Int32), ∀ ls : Array Slot, lv_has ls 11 [(0, .ref t0), (1, .ref bg), (3, .ref bh), (6, .ref bt), (7, .ref bx), (9, .int y9_356), (10, .int y10_356)] → f_L_isSo_J356 (f_L_isSo_L219 vg vu vh vc ve vt vx og n219) vg vu vh vc ve vt vx og y9_356 y10_356 z0_356 z1_356 = some R → W p l e rmL_isSo s m args below meth c s.heap [] 0 0 Q (F0 m 356 ls [.int z0_356, .int z1_356]) := by
        intro y9_356 y10_356 z0_356 z1_356 ls hl hf
        rw [f_L_isSo_J356] at hf
        refine lv_icmp_ne (tgt := 485) hx hb dL_isSo_356 (by decide) (fun hc94 => ?_) (fun hc94 => ?_)
        · replace hf := ie hc94 hf
          exact J485 y9_356 ls (lv_sub hl [0, 1, 2, 3, 4, 5] rfl) hf
        · replace hf := it hc94 hf
          refine lv_aload_n hx hb dL_isSo_359 rfl (lv_at hl 0 rfl) ?_
          refine lv_iload hx hb dL_isSo_360 (lv_at hl 5 rfl) ?_
          refine lv_iconst (v := (4 : Int32)) hx hb dL_isSo_362 (by decide) ?_
          obtain ⟨q95, hq95, hf⟩ := ob hf
          refine cl_RO (As := [.int y9_356, .int (4 : Int32)]) (rest := []) hF hP hD hT (oq_shotOf hT y9_356 (4 : Int32) q95 hq95) (cwV 2 hts gL_isSo_X7_shotOf rfl rfl rfl (by decide +kernel) ⟨(Nat.le_of_ble_eq_true rfl), (Nat.le_of_ble_eq_true rfl)⟩) rfl rfl hl.1 (Nat.le_of_ble_eq_true rfl) dL_isSo_363 ⟨Nat.zero_le _, Nat.zero_le _⟩ ?_
          refine lv_iload hx hb dL_isSo_366 (lv_at hl 6 rfl) ?_
          refine lv_if_eq (tgt := 383) hx hb dL_isSo_368 (by decide) (fun hc96 => ?_) (fun hc96 => ?_)
          · replace hf := it hc96 hf
            refine lv_ldc hx hb hown k1_ dL_isSo_383 ?_
            exact J385 y9_356 y10_356 (-1000004 : Int32) q95 ls (lv_sub hl [0, 1, 2, 3, 4, 5, 6] rfl) hf
          · replace hf := ie hc96 hf
            refine lv_aload hx hb dL_isSo_371 (lv_at hl 4 rfl) ?_
            refine lv_iconst (v := (4 : Int32)) hx hb dL_isSo_373 (by decide) ?_
            refine lv_iload hx hb dL_isSo_374 (lv_at hl 5 rfl) ?_
            refine lv_imul hx hb dL_isSo_376 ?_
            refine lv_iconst (v := (1 : Int32)) hx hb dL_isSo_377 (by decide) ?_
            refine lv_iadd hx hb dL_isSo_378 ?_
            obtain ⟨hg97, hf⟩ := gd_s hf
            refine va_iald hx hb hK hP 6 0 rfl rfl hg97 dL_isSo_379 ?_
            refine lv_goto (tgt := 385) hx hb dL_isSo_380 (by decide) ?_
            exact J385 y9_356 y10_356 (vx (((4 : Int32) * y9_356) + (1 : Int32)).toNatClampNeg) q95 ls (lv_sub hl [0, 1, 2, 3, 4, 5, 6] rfl) hf
      have J329 : ∀ (y9_329 : Int32) (y10_329 : Int32) (z0_329 : Int32) (z1_329 : Int32), ∀ ls : Array Slot, lv_has ls 11 [(0, .ref t0), (1, .ref bg), (3, .ref bh), (6, .ref bt), (7, .ref bx), (9, .int y9_329), (10, .int y10_329)] → f_L_isSo_J329 (f_L_isSo_L219 vg vu vh vc ve vt vx og n219) vg vu vh vc ve vt vx og y9_329 y10_329 z0_329 z1_329 = some R → W p l e rmL_isSo s m args below meth c s.heap [] 0 0 Q (F0 m 329 ls [.int z0_329, .int z1_329]) := by
        intro y9_329 y10_329 z0_329 z1_329 ls hl hf
        rw [f_L_isSo_J329] at hf
        refine lv_icmp_ne (tgt := 485) hx hb dL_isSo_329 (by decide) (fun hc90 => ?_) (fun hc90 => ?_)
        · replace hf := ie hc90 hf
          exact J485 y9_329 ls (lv_sub hl [0, 1, 2, 3, 4, 5] rfl) hf
        · replace hf := it hc90 hf
          refine lv_aload_n hx hb dL_isSo_332 rfl (lv_at hl 0 rfl) ?_
          refine lv_iload hx hb dL_isSo_333 (lv_at hl 5 rfl) ?_
          refine lv_iconst (v := (3 : Int32)) hx hb dL_isSo_335 (by decide) ?_
          obtain ⟨q91, hq91, hf⟩ := ob hf
          refine cl_RO (As := [.int y9_329, .int (3 : Int32)]) (rest := []) hF hP hD hT (oq_shotOf hT y9_329 (3 : Int32) q91 hq91) (cwV 2 hts gL_isSo_X7_shotOf rfl rfl rfl (by decide +kernel) ⟨(Nat.le_of_ble_eq_true rfl), (Nat.le_of_ble_eq_true rfl)⟩) rfl rfl hl.1 (Nat.le_of_ble_eq_true rfl) dL_isSo_336 ⟨Nat.zero_le _, Nat.zero_le _⟩ ?_
          refine lv_iload hx hb dL_isSo_339 (lv_at hl 6 rfl) ?_
          refine lv_if_eq (tgt := 354) hx hb dL_isSo_341 (by decide) (fun hc92 => ?_) (fun hc92 => ?_)
          · replace hf := it hc92 hf
            refine lv_ldc hx hb hown k1_ dL_isSo_354 ?_
            exact J356 y9_329 y10_329 (-1000004 : Int32) q91 ls (lv_sub hl [0, 1, 2, 3, 4, 5, 6] rfl) hf
          · replace hf := ie hc92 hf
            refine lv_aload hx hb dL_isSo_344 (lv_at hl 4 rfl) ?_
            refine lv_iconst (v := (4 : Int32)) hx hb dL_isSo_346 (by decide) ?_
            refine lv_iload hx hb dL_isSo_347 (lv_at hl 5 rfl) ?_
            refine lv_imul hx hb dL_isSo_349 ?_
            obtain ⟨hg93, hf⟩ := gd_s hf
            refine va_iald hx hb hK hP 6 0 rfl rfl hg93 dL_isSo_350 ?_
            refine lv_goto (tgt := 356) hx hb dL_isSo_351 (by decide) ?_
            exact J356 y9_329 y10_329 (vx ((4 : Int32) * y9_329).toNatClampNeg) q91 ls (lv_sub hl [0, 1, 2, 3, 4, 5, 6] rfl) hf
      have J300 : ∀ (y9_300 : Int32) (y10_300 : Int32) (z0_300 : Int32) (z1_300 : Int32), ∀ ls : Array Slot, lv_has ls 11 [(0, .ref t0), (1, .ref bg), (3, .ref bh), (6, .ref bt), (7, .ref bx), (9, .int y9_300), (10, .int y10_300)] → f_L_isSo_J300 (f_L_isSo_L219 vg vu vh vc ve vt vx og n219) vg vu vh vc ve vt vx og y9_300 y10_300 z0_300 z1_300 = some R → W p l e rmL_isSo s m args below meth c s.heap [] 0 0 Q (F0 m 300 ls [.int z0_300, .int z1_300]) := by
        intro y9_300 y10_300 z0_300 z1_300 ls hl hf
        rw [f_L_isSo_J300] at hf
        refine lv_icmp_ne (tgt := 485) hx hb dL_isSo_300 (by decide) (fun hc63 => ?_) (fun hc63 => ?_)
        · replace hf := ie hc63 hf
          exact J485 y9_300 ls (lv_sub hl [0, 1, 2, 3, 4, 5] rfl) hf
        · replace hf := it hc63 hf
          refine lv_aload_n hx hb dL_isSo_303 rfl (lv_at hl 0 rfl) ?_
          refine lv_iload hx hb dL_isSo_304 (lv_at hl 5 rfl) ?_
          refine lv_iconst (v := (2 : Int32)) hx hb dL_isSo_306 (by decide) ?_
          obtain ⟨q64, hq64, hf⟩ := ob hf
          refine cl_RO (As := [.int y9_300, .int (2 : Int32)]) (rest := []) hF hP hD hT (oq_shotOf hT y9_300 (2 : Int32) q64 hq64) (cwV 2 hts gL_isSo_X7_shotOf rfl rfl rfl (by decide +kernel) ⟨(Nat.le_of_ble_eq_true rfl), (Nat.le_of_ble_eq_true rfl)⟩) rfl rfl hl.1 (Nat.le_of_ble_eq_true rfl) dL_isSo_307 ⟨Nat.zero_le _, Nat.zero_le _⟩ ?_
          refine lv_iload hx hb dL_isSo_310 (lv_at hl 6 rfl) ?_
          refine lv_if_eq (tgt := 327) hx hb dL_isSo_312 (by decide) (fun hc65 => ?_) (fun hc65 => ?_)
          · replace hf := it hc65 hf
            refine lv_ldc hx hb hown k1_ dL_isSo_327 ?_
            exact J329 y9_300 y10_300 (-1000004 : Int32) q64 ls (lv_sub hl [0, 1, 2, 3, 4, 5, 6] rfl) hf
          · replace hf := ie hc65 hf
            refine lv_aload hx hb dL_isSo_315 (lv_at hl 3 rfl) ?_
            refine lv_iconst (v := (3 : Int32)) hx hb dL_isSo_317 (by decide) ?_
            refine lv_iload hx hb dL_isSo_318 (lv_at hl 5 rfl) ?_
            refine lv_imul hx hb dL_isSo_320 ?_
            refine lv_iconst (v := (2 : Int32)) hx hb dL_isSo_321 (by decide) ?_
            refine lv_iadd hx hb dL_isSo_322 ?_
            obtain ⟨hg66, hf⟩ := gd_s hf
            refine va_iald hx hb hK hP 5 0 rfl rfl hg66 dL_isSo_323 ?_
            refine lv_goto (tgt := 329) hx hb dL_isSo_324 (by decide) ?_
            exact J329 y9_300 y10_300 (vt (((3 : Int32) * y9_300) + (2 : Int32)).toNatClampNeg) q64 ls (lv_sub hl [0, 1, 2, 3, 4, 5, 6] rfl) hf
      have J271 : ∀ (y9_271 : Int32) (y10_271 : Int32) (z0_271 : Int32) (z1_271 : Int32), ∀ ls : Array Slot, lv_has ls 11 [(0, .ref t0), (1, .ref bg), (3, .ref bh), (6, .ref bt), (7, .ref bx), (9, .int y9_271), (10, .int y10_271)] → f_L_isSo_J271 (f_L_isSo_L219 vg vu vh vc ve vt vx og n219) vg vu vh vc ve vt vx og y9_271 y10_271 z0_271 z1_271 = some R → W p l e rmL_isSo s m args below meth c s.heap [] 0 0 Q (F0 m 271 ls [.int z0_271, .int z1_271]) := by
        intro y9_271 y10_271 z0_271 z1_271 ls hl hf
        rw [f_L_isSo_J271] at hf
        refine lv_icmp_ne (tgt := 485) hx hb dL_isSo_271 (by decide) (fun hc43 => ?_) (fun hc43 => ?_)
        · replace hf := ie hc43 hf
          exact J485 y9_271 ls (lv_sub hl [0, 1, 2, 3, 4, 5] rfl) hf
        · replace hf := it hc43 hf
          refine lv_aload_n hx hb dL_isSo_274 rfl (lv_at hl 0 rfl) ?_
          refine lv_iload hx hb dL_isSo_275 (lv_at hl 5 rfl) ?_
          refine lv_iconst (v := (1 : Int32)) hx hb dL_isSo_277 (by decide) ?_
          obtain ⟨q44, hq44, hf⟩ := ob hf
          refine cl_RO (As := [.int y9_271, .int (1 : Int32)]) (rest := []) hF hP hD hT (oq_shotOf hT y9_271 (1 : Int32) q44 hq44) (cwV 2 hts gL_isSo_X7_shotOf rfl rfl rfl (by decide +kernel) ⟨(Nat.le_of_ble_eq_true rfl), (Nat.le_of_ble_eq_true rfl)⟩) rfl rfl hl.1 (Nat.le_of_ble_eq_true rfl) dL_isSo_278 ⟨Nat.zero_le _, Nat.zero_le _⟩ ?_
          refine lv_iload hx hb dL_isSo_281 (lv_at hl 6 rfl) ?_
          refine lv_if_eq (tgt := 298) hx hb dL_isSo_283 (by decide) (fun hc45 => ?_) (fun hc45 => ?_)
          · replace hf := it hc45 hf
            refine lv_ldc hx hb hown k1_ dL_isSo_298 ?_
            exact J300 y9_271 y10_271 (-1000004 : Int32) q44 ls (lv_sub hl [0, 1, 2, 3, 4, 5, 6] rfl) hf
          · replace hf := ie hc45 hf
            refine lv_aload hx hb dL_isSo_286 (lv_at hl 3 rfl) ?_
            refine lv_iconst (v := (3 : Int32)) hx hb dL_isSo_288 (by decide) ?_
            refine lv_iload hx hb dL_isSo_289 (lv_at hl 5 rfl) ?_
            refine lv_imul hx hb dL_isSo_291 ?_
            refine lv_iconst (v := (1 : Int32)) hx hb dL_isSo_292 (by decide) ?_
            refine lv_iadd hx hb dL_isSo_293 ?_
            obtain ⟨hg46, hf⟩ := gd_s hf
            refine va_iald hx hb hK hP 5 0 rfl rfl hg46 dL_isSo_294 ?_
            refine lv_goto (tgt := 300) hx hb dL_isSo_295 (by decide) ?_
            exact J300 y9_271 y10_271 (vt (((3 : Int32) * y9_271) + (1 : Int32)).toNatClampNeg) q44 ls (lv_sub hl [0, 1, 2, 3, 4, 5, 6] rfl) hf
      have J245 : ∀ (y9_245 : Int32) (z0_245 : Int32), ∀ ls : Array Slot, lv_has ls 11 [(0, .ref t0), (1, .ref bg), (3, .ref bh), (6, .ref bt), (7, .ref bx), (9, .int y9_245)] → f_L_isSo_J245 (f_L_isSo_L219 vg vu vh vc ve vt vx og n219) vg vu vh vc ve vt vx og y9_245 z0_245 = some R → W p l e rmL_isSo s m args below meth c s.heap [] 0 0 Q (F0 m 245 ls [.int z0_245]) := by
        intro y9_245 z0_245 ls hl hf
        rw [f_L_isSo_J245] at hf
        refine lv_istore (lv' := [(10, .int z0_245), (0, .ref t0), (1, .ref bg), (3, .ref bh), (6, .ref bt), (7, .ref bx), (9, .int y9_245)]) hx hb dL_isSo_245 hl (by decide) rfl (fun ls hl => ?_)
        refine lv_aload_n hx hb dL_isSo_247 rfl (lv_at hl 1 rfl) ?_
        refine lv_iload hx hb dL_isSo_248 (lv_at hl 6 rfl) ?_
        refine lv_iconst (v := (0 : Int32)) hx hb dL_isSo_250 (by decide) ?_
        obtain ⟨q35, hq35, hf⟩ := ob hf
        refine cl_RO (As := [.int y9_245, .int (0 : Int32)]) (rest := []) hF hP hD hT (oq_shotOf hT y9_245 (0 : Int32) q35 hq35) (cwV 2 hts gL_isSo_X7_shotOf rfl rfl rfl (by decide +kernel) ⟨(Nat.le_of_ble_eq_true rfl), (Nat.le_of_ble_eq_true rfl)⟩) rfl rfl hl.1 (Nat.le_of_ble_eq_true rfl) dL_isSo_251 ⟨Nat.zero_le _, Nat.zero_le _⟩ ?_
        refine lv_iload hx hb dL_isSo_254 (lv_at hl 0 rfl) ?_
        refine lv_if_eq (tgt := 269) hx hb dL_isSo_256 (by decide) (fun hc36 => ?_) (fun hc36 => ?_)
        · replace hf := it hc36 hf
          refine lv_ldc hx hb hown k1_ dL_isSo_269 ?_
          exact J271 y9_245 z0_245 (-1000004 : Int32) q35 ls (lv_sub hl [1, 2, 3, 4, 5, 6, 0] rfl) hf
        · replace hf := ie hc36 hf
          refine lv_aload hx hb dL_isSo_259 (lv_at hl 4 rfl) ?_
          refine lv_iconst (v := (3 : Int32)) hx hb dL_isSo_261 (by decide) ?_
          refine lv_iload hx hb dL_isSo_262 (lv_at hl 6 rfl) ?_
          refine lv_imul hx hb dL_isSo_264 ?_
          obtain ⟨hg37, hf⟩ := gd_s hf
          refine va_iald hx hb hK hP 5 0 rfl rfl hg37 dL_isSo_265 ?_
          refine lv_goto (tgt := 271) hx hb dL_isSo_266 (by decide) ?_
          exact J271 y9_245 z0_245 (vt ((3 : Int32) * y9_245).toNatClampNeg) q35 ls (lv_sub hl [1, 2, 3, 4, 5, 6, 0] rfl) hf
      rw [f_L_isSo_L219] at hf
      refine lv_iload hx hb dL_isSo_219 (lv_at hl 6 rfl) ?_
      refine lv_bipush (v := (12 : Int32)) hx hb dL_isSo_221 (by decide) ?_
      refine lv_icmp_ge (tgt := 494) hx hb dL_isSo_223 (by decide) (fun hc31 => ?_) (fun hc31 => ?_)
      · replace hf := it hc31 hf
        exact J494 y8_219 ls (lv_sub hl [0, 1, 2, 5] rfl) hf
      · replace hf := ie hc31 hf
        refine lv_iload hx hb dL_isSo_226 (lv_at hl 5 rfl) ?_
        refine lv_if_eq (tgt := 494) hx hb dL_isSo_228 (by decide) (fun hc32 => ?_) (fun hc32 => ?_)
        · replace hf := it hc32 hf
          exact J494 y8_219 ls (lv_sub hl [0, 1, 2, 5] rfl) hf
        · replace hf := ie hc32 hf
          refine lv_iload hx hb dL_isSo_231 (lv_at hl 6 rfl) ?_
          refine lv_aload_n hx hb dL_isSo_233 rfl (lv_at hl 1 rfl) ?_
          refine lv_bipush (v := (14 : Int32)) hx hb dL_isSo_234 (by decide) ?_
          refine va_iald hx hb hK hP 0 0 rfl rfl (show ¬ ((14 : Int32) < 0 ∨ 15 ≤ (14 : Int32).toNatClampNeg) by decide) dL_isSo_236 ?_
          refine lv_icmp_ge (tgt := 244) hx hb dL_isSo_237 (by decide) (fun hc33 => ?_) (fun hc33 => ?_)
          · replace hf := it hc33 hf
            refine lv_iconst (v := (0 : Int32)) hx hb dL_isSo_244 (by decide) ?_
            exact J245 y9_219 (0 : Int32) ls (lv_sub hl [0, 1, 2, 3, 4, 6] rfl) hf
          · replace hf := ie hc33 hf
            refine lv_iconst (v := (1 : Int32)) hx hb dL_isSo_240 (by decide) ?_
            refine lv_goto (tgt := 245) hx hb dL_isSo_241 (by decide) ?_
            exact J245 y9_219 (1 : Int32) ls (lv_sub hl [0, 1, 2, 3, 4, 6] rfl) hf
  have J216 : ∀ (y8_216 : Int32), ∀ ls : Array Slot, lv_has ls 11 [(0, .ref t0), (1, .ref bg), (3, .ref bh), (6, .ref bt), (7, .ref bx), (8, .int y8_216)] → f_L_isSo_J216 vg vu vh vc ve vt vx og y8_216 = some R → W p l e rmL_isSo s m args below meth c s.heap [] 0 0 Q (F0 m 216 ls []) := by
    intro y8_216 ls hl hf
    rw [f_L_isSo_J216] at hf
    refine lv_iconst (v := (0 : Int32)) hx hb dL_isSo_216 (by decide) ?_
    refine lv_istore (lv' := [(9, .int (0 : Int32)), (0, .ref t0), (1, .ref bg), (3, .ref bh), (6, .ref bt), (7, .ref bx), (8, .int y8_216)]) hx hb dL_isSo_217 hl (by decide) rfl (fun ls hl => ?_)
    exact L219 FU y8_216 (0 : Int32) ls (lv_sub hl [1, 2, 3, 4, 5, 6, 0] rfl) hf
  have L156 : ∀ n156 : Nat, ∀ (y8_156 : Int32) (y9_156 : Int32), ∀ ls : Array Slot, lv_has ls 11 [(0, .ref t0), (1, .ref bg), (3, .ref bh), (6, .ref bt), (7, .ref bx), (8, .int y8_156), (9, .int y9_156)] → f_L_isSo_L156 vg vu vh vc ve vt vx og n156 y8_156 y9_156 = some R → W p l e rmL_isSo s m args below meth c s.heap [] 0 0 Q (F0 m 156 ls []) := by
    intro n156
    induction n156 with
    | zero => intro y8_156 y9_156 ls hl hf; rw [f_L_isSo_L156] at hf; cases hf
    | succ n156 IH156 =>
      intro y8_156 y9_156 ls hl hf
      have J208 : ∀ (y9_208 : Int32) (z0_208 : Int32), ∀ ls : Array Slot, lv_has ls 11 [(0, .ref t0), (1, .ref bg), (3, .ref bh), (6, .ref bt), (7, .ref bx), (9, .int y9_208)] → f_L_isSo_J208 (f_L_isSo_L156 vg vu vh vc ve vt vx og n156) vg vu vh vc ve vt vx og y9_208 z0_208 = some R → W p l e rmL_isSo s m args below meth c s.heap [] 0 0 Q (F0 m 208 ls [.int z0_208]) := by
        intro y9_208 z0_208 ls hl hf
        rw [f_L_isSo_J208] at hf
        refine lv_istore (lv' := [(8, .int z0_208), (0, .ref t0), (1, .ref bg), (3, .ref bh), (6, .ref bt), (7, .ref bx), (9, .int y9_208)]) hx hb dL_isSo_208 hl (by decide) rfl (fun ls hl => ?_)
        obtain ⟨v34, ev34⟩ : ∃ z : Int32, z = y9_208 + (1 : Int32) := ⟨_, rfl⟩
        replace hf := lt_e ev34 hf
        refine lv_iinc (v := v34) (lv' := [(9, .int v34), (8, .int z0_208), (0, .ref t0), (1, .ref bg), (3, .ref bh), (6, .ref bt), (7, .ref bx)]) hx hb dL_isSo_210 hl (k := 6) rfl (by rw [ev34]; rfl) (by decide) rfl (fun ls hl => ?_)
        refine lv_goto (tgt := 156) hx hb dL_isSo_213 (by decide) ?_
        exact IH156 z0_208 v34 ls (lv_sub hl [2, 3, 4, 5, 6, 1, 0] rfl) hf
      have J200 : ∀ (y9_200 : Int32) (z0_200 : Int32) (z1_200 : Int32), ∀ ls : Array Slot, lv_has ls 11 [(0, .ref t0), (1, .ref bg), (3, .ref bh), (6, .ref bt), (7, .ref bx), (9, .int y9_200)] → f_L_isSo_J200 (f_L_isSo_L156 vg vu vh vc ve vt vx og n156) vg vu vh vc ve vt vx og y9_200 z0_200 z1_200 = some R → W p l e rmL_isSo s m args below meth c s.heap [] 0 0 Q (F0 m 200 ls [.int z0_200, .int z1_200]) := by
        intro y9_200 z0_200 z1_200 ls hl hf
        rw [f_L_isSo_J200] at hf
        refine lv_icmp_ne (tgt := 207) hx hb dL_isSo_200 (by decide) (fun hc30 => ?_) (fun hc30 => ?_)
        · replace hf := ie hc30 hf
          refine lv_iconst (v := (0 : Int32)) hx hb dL_isSo_207 (by decide) ?_
          exact J208 y9_200 (0 : Int32) ls (lv_sub hl [0, 1, 2, 3, 4, 5] rfl) hf
        · replace hf := it hc30 hf
          refine lv_iconst (v := (1 : Int32)) hx hb dL_isSo_203 (by decide) ?_
          refine lv_goto (tgt := 208) hx hb dL_isSo_204 (by decide) ?_
          exact J208 y9_200 (1 : Int32) ls (lv_sub hl [0, 1, 2, 3, 4, 5] rfl) hf
      rw [f_L_isSo_L156] at hf
      refine lv_iload hx hb dL_isSo_156 (lv_at hl 6 rfl) ?_
      refine lv_bipush (v := (12 : Int32)) hx hb dL_isSo_158 (by decide) ?_
      refine lv_icmp_ge (tgt := 216) hx hb dL_isSo_160 (by decide) (fun hc25 => ?_) (fun hc25 => ?_)
      · replace hf := it hc25 hf
        exact J216 y8_156 ls (lv_sub hl [0, 1, 2, 3, 4, 5] rfl) hf
      · replace hf := ie hc25 hf
        refine lv_iload hx hb dL_isSo_163 (lv_at hl 5 rfl) ?_
        refine lv_if_eq (tgt := 216) hx hb dL_isSo_165 (by decide) (fun hc26 => ?_) (fun hc26 => ?_)
        · replace hf := it hc26 hf
          exact J216 y8_156 ls (lv_sub hl [0, 1, 2, 3, 4, 5] rfl) hf
        · replace hf := ie hc26 hf
          refine lv_aload_n hx hb dL_isSo_168 rfl (lv_at hl 0 rfl) ?_
          refine lv_iload hx hb dL_isSo_169 (lv_at hl 6 rfl) ?_
          refine lv_iconst (v := (2 : Int32)) hx hb dL_isSo_171 (by decide) ?_
          refine lv_idiv hx hb dL_isSo_172 (by decide) ?_
          refine lv_iload hx hb dL_isSo_173 (lv_at hl 6 rfl) ?_
          refine lv_iconst (v := (2 : Int32)) hx hb dL_isSo_175 (by decide) ?_
          refine lv_irem hx hb dL_isSo_176 (by decide) ?_
          obtain ⟨q27, hq27, hf⟩ := ob hf
          refine cl_RO (As := [.int (y9_156 / (2 : Int32)), .int (y9_156 - y9_156 / (2 : Int32) * (2 : Int32))]) (rest := []) hF hP hD hT (oq_lotOf hT (y9_156 / (2 : Int32)) (y9_156 - y9_156 / (2 : Int32) * (2 : Int32)) q27 hq27) (cwV 2 hts gL_isSo_X7_lotOf rfl rfl rfl (by decide +kernel) ⟨(Nat.le_of_ble_eq_true rfl), (Nat.le_of_ble_eq_true rfl)⟩) rfl rfl hl.1 (Nat.le_of_ble_eq_true rfl) dL_isSo_177 ⟨Nat.zero_le _, Nat.zero_le _⟩ ?_
          refine lv_iload hx hb dL_isSo_180 (lv_at hl 6 rfl) ?_
          refine lv_iconst (v := (2 : Int32)) hx hb dL_isSo_182 (by decide) ?_
          refine lv_idiv hx hb dL_isSo_183 (by decide) ?_
          refine lv_aload_n hx hb dL_isSo_184 rfl (lv_at hl 1 rfl) ?_
          refine lv_bipush (v := (13 : Int32)) hx hb dL_isSo_185 (by decide) ?_
          refine va_iald hx hb hK hP 0 0 rfl rfl (show ¬ ((13 : Int32) < 0 ∨ 15 ≤ (13 : Int32).toNatClampNeg) by decide) dL_isSo_187 ?_
          refine lv_icmp_ge (tgt := 198) hx hb dL_isSo_188 (by decide) (fun hc28 => ?_) (fun hc28 => ?_)
          · replace hf := it hc28 hf
            refine lv_ldc hx hb hown k1_ dL_isSo_198 ?_
            exact J200 y9_156 (-1000004 : Int32) q27 ls (lv_sub hl [0, 1, 2, 3, 4, 6] rfl) hf
          · replace hf := ie hc28 hf
            refine lv_aload_n hx hb dL_isSo_191 rfl (lv_at hl 2 rfl) ?_
            refine lv_iload hx hb dL_isSo_192 (lv_at hl 6 rfl) ?_
            obtain ⟨hg29, hf⟩ := gd_s hf
            refine va_iald hx hb hK hP 2 0 rfl rfl hg29 dL_isSo_194 ?_
            refine lv_goto (tgt := 200) hx hb dL_isSo_195 (by decide) ?_
            exact J200 y9_156 (vh y9_156.toNatClampNeg) q27 ls (lv_sub hl [0, 1, 2, 3, 4, 6] rfl) hf
  have J153 : ∀ (y8_153 : Int32), ∀ ls : Array Slot, lv_has ls 11 [(0, .ref t0), (1, .ref bg), (3, .ref bh), (6, .ref bt), (7, .ref bx), (8, .int y8_153)] → f_L_isSo_J153 vg vu vh vc ve vt vx og y8_153 = some R → W p l e rmL_isSo s m args below meth c s.heap [] 0 0 Q (F0 m 153 ls []) := by
    intro y8_153 ls hl hf
    rw [f_L_isSo_J153] at hf
    refine lv_iconst (v := (0 : Int32)) hx hb dL_isSo_153 (by decide) ?_
    refine lv_istore (lv' := [(9, .int (0 : Int32)), (0, .ref t0), (1, .ref bg), (3, .ref bh), (6, .ref bt), (7, .ref bx), (8, .int y8_153)]) hx hb dL_isSo_154 hl (by decide) rfl (fun ls hl => ?_)
    exact L156 FU y8_153 (0 : Int32) ls (lv_sub hl [1, 2, 3, 4, 5, 6, 0] rfl) hf
  have L32 : ∀ n32 : Nat, ∀ (y8_32 : Int32) (y9_32 : Int32), ∀ ls : Array Slot, lv_has ls 11 [(0, .ref t0), (1, .ref bg), (2, .ref bu), (3, .ref bh), (6, .ref bt), (7, .ref bx), (8, .int y8_32), (9, .int y9_32)] → f_L_isSo_L32 vg vu vh vc ve vt vx og n32 y8_32 y9_32 = some R → W p l e rmL_isSo s m args below meth c s.heap [] 0 0 Q (F0 m 32 ls []) := by
    intro n32
    induction n32 with
    | zero => intro y8_32 y9_32 ls hl hf; rw [f_L_isSo_L32] at hf; cases hf
    | succ n32 IH32 =>
      intro y8_32 y9_32 ls hl hf
      have J145 : ∀ (y9_145 : Int32) (z0_145 : Int32), ∀ ls : Array Slot, lv_has ls 11 [(0, .ref t0), (1, .ref bg), (2, .ref bu), (3, .ref bh), (6, .ref bt), (7, .ref bx), (9, .int y9_145)] → f_L_isSo_J145 (f_L_isSo_L32 vg vu vh vc ve vt vx og n32) vg vu vh vc ve vt vx og y9_145 z0_145 = some R → W p l e rmL_isSo s m args below meth c s.heap [] 0 0 Q (F0 m 145 ls [.int z0_145]) := by
        intro y9_145 z0_145 ls hl hf
        rw [f_L_isSo_J145] at hf
        refine lv_istore (lv' := [(8, .int z0_145), (0, .ref t0), (1, .ref bg), (2, .ref bu), (3, .ref bh), (6, .ref bt), (7, .ref bx), (9, .int y9_145)]) hx hb dL_isSo_145 hl (by decide) rfl (fun ls hl => ?_)
        obtain ⟨v24, ev24⟩ : ∃ z : Int32, z = y9_145 + (1 : Int32) := ⟨_, rfl⟩
        replace hf := lt_e ev24 hf
        refine lv_iinc (v := v24) (lv' := [(9, .int v24), (8, .int z0_145), (0, .ref t0), (1, .ref bg), (2, .ref bu), (3, .ref bh), (6, .ref bt), (7, .ref bx)]) hx hb dL_isSo_147 hl (k := 7) rfl (by rw [ev24]; rfl) (by decide) rfl (fun ls hl => ?_)
        refine lv_goto (tgt := 32) hx hb dL_isSo_150 (by decide) ?_
        exact IH32 z0_145 v24 ls (lv_sub hl [2, 3, 4, 5, 6, 7, 1, 0] rfl) hf
      have J144 : ∀ (y9_144 : Int32), ∀ ls : Array Slot, lv_has ls 11 [(0, .ref t0), (1, .ref bg), (2, .ref bu), (3, .ref bh), (6, .ref bt), (7, .ref bx), (9, .int y9_144)] → f_L_isSo_J144 (f_L_isSo_L32 vg vu vh vc ve vt vx og n32) vg vu vh vc ve vt vx og y9_144 = some R → W p l e rmL_isSo s m args below meth c s.heap [] 0 0 Q (F0 m 144 ls []) := by
        intro y9_144 ls hl hf
        rw [f_L_isSo_J144] at hf
        refine lv_iconst (v := (0 : Int32)) hx hb dL_isSo_144 (by decide) ?_
        exact J145 y9_144 (0 : Int32) ls (lv_sub hl [0, 1, 2, 3, 4, 5, 6] rfl) hf
      rw [f_L_isSo_L32] at hf
      refine lv_iload hx hb dL_isSo_32 (lv_at hl 7 rfl) ?_
      refine lv_iconst (v := (2 : Int32)) hx hb dL_isSo_34 (by decide) ?_
      refine lv_icmp_ge (tgt := 153) hx hb dL_isSo_35 (by decide) (fun hc5 => ?_) (fun hc5 => ?_)
      · replace hf := it hc5 hf
        exact J153 y8_32 ls (lv_sub hl [0, 1, 3, 4, 5, 6] rfl) hf
      · replace hf := ie hc5 hf
        refine lv_iload hx hb dL_isSo_38 (lv_at hl 6 rfl) ?_
        refine lv_if_eq (tgt := 153) hx hb dL_isSo_40 (by decide) (fun hc6 => ?_) (fun hc6 => ?_)
        · replace hf := it hc6 hf
          exact J153 y8_32 ls (lv_sub hl [0, 1, 3, 4, 5, 6] rfl) hf
        · replace hf := ie hc6 hf
          refine lv_aload_n hx hb dL_isSo_43 rfl (lv_at hl 0 rfl) ?_
          refine lv_iload hx hb dL_isSo_44 (lv_at hl 7 rfl) ?_
          refine lv_iconst (v := (0 : Int32)) hx hb dL_isSo_46 (by decide) ?_
          obtain ⟨q7, hq7, hf⟩ := ob hf
          refine cl_RO (As := [.int y9_32, .int (0 : Int32)]) (rest := []) hF hP hD hT (oq_burrOf hT y9_32 (0 : Int32) q7 hq7) (cwV 2 hts gL_isSo_X7_burrOf rfl rfl rfl (by decide +kernel) ⟨(Nat.le_of_ble_eq_true rfl), (Nat.le_of_ble_eq_true rfl)⟩) rfl rfl hl.1 (Nat.le_of_ble_eq_true rfl) dL_isSo_47 ⟨Nat.zero_le _, Nat.zero_le _⟩ ?_
          refine lv_aload_n hx hb dL_isSo_50 rfl (lv_at hl 2 rfl) ?_
          refine lv_iconst (v := (4 : Int32)) hx hb dL_isSo_51 (by decide) ?_
          refine lv_iload hx hb dL_isSo_52 (lv_at hl 7 rfl) ?_
          refine lv_imul hx hb dL_isSo_54 ?_
          obtain ⟨hg8, hf⟩ := gd_s hf
          refine va_iald hx hb hK hP 1 0 rfl rfl hg8 dL_isSo_55 ?_
          refine lv_icmp_ne (tgt := 144) hx hb dL_isSo_56 (by decide) (fun hc9 => ?_) (fun hc9 => ?_)
          · replace hf := ie hc9 hf
            exact J144 y9_32 ls (lv_sub hl [0, 1, 2, 3, 4, 5, 7] rfl) hf
          · replace hf := it hc9 hf
            refine lv_aload_n hx hb dL_isSo_59 rfl (lv_at hl 0 rfl) ?_
            refine lv_iload hx hb dL_isSo_60 (lv_at hl 7 rfl) ?_
            refine lv_iconst (v := (1 : Int32)) hx hb dL_isSo_62 (by decide) ?_
            obtain ⟨q10, hq10, hf⟩ := ob hf
            refine cl_RO (As := [.int y9_32, .int (1 : Int32)]) (rest := []) hF hP hD hT (oq_burrOf hT y9_32 (1 : Int32) q10 hq10) (cwV 2 hts gL_isSo_X7_burrOf rfl rfl rfl (by decide +kernel) ⟨(Nat.le_of_ble_eq_true rfl), (Nat.le_of_ble_eq_true rfl)⟩) rfl rfl hl.1 (Nat.le_of_ble_eq_true rfl) dL_isSo_63 ⟨Nat.zero_le _, Nat.zero_le _⟩ ?_
            refine lv_aload_n hx hb dL_isSo_66 rfl (lv_at hl 2 rfl) ?_
            refine lv_iconst (v := (4 : Int32)) hx hb dL_isSo_67 (by decide) ?_
            refine lv_iload hx hb dL_isSo_68 (lv_at hl 7 rfl) ?_
            refine lv_imul hx hb dL_isSo_70 ?_
            refine lv_iconst (v := (1 : Int32)) hx hb dL_isSo_71 (by decide) ?_
            refine lv_iadd hx hb dL_isSo_72 ?_
            obtain ⟨hg11, hf⟩ := gd_s hf
            refine va_iald hx hb hK hP 1 0 rfl rfl hg11 dL_isSo_73 ?_
            refine lv_icmp_ne (tgt := 144) hx hb dL_isSo_74 (by decide) (fun hc12 => ?_) (fun hc12 => ?_)
            · replace hf := ie hc12 hf
              exact J144 y9_32 ls (lv_sub hl [0, 1, 2, 3, 4, 5, 7] rfl) hf
            · replace hf := it hc12 hf
              refine lv_aload_n hx hb dL_isSo_77 rfl (lv_at hl 0 rfl) ?_
              refine lv_iload hx hb dL_isSo_78 (lv_at hl 7 rfl) ?_
              refine lv_iconst (v := (2 : Int32)) hx hb dL_isSo_80 (by decide) ?_
              obtain ⟨q13, hq13, hf⟩ := ob hf
              refine cl_RO (As := [.int y9_32, .int (2 : Int32)]) (rest := []) hF hP hD hT (oq_burrOf hT y9_32 (2 : Int32) q13 hq13) (cwV 2 hts gL_isSo_X7_burrOf rfl rfl rfl (by decide +kernel) ⟨(Nat.le_of_ble_eq_true rfl), (Nat.le_of_ble_eq_true rfl)⟩) rfl rfl hl.1 (Nat.le_of_ble_eq_true rfl) dL_isSo_81 ⟨Nat.zero_le _, Nat.zero_le _⟩ ?_
              refine lv_aload_n hx hb dL_isSo_84 rfl (lv_at hl 2 rfl) ?_
              refine lv_iconst (v := (4 : Int32)) hx hb dL_isSo_85 (by decide) ?_
              refine lv_iload hx hb dL_isSo_86 (lv_at hl 7 rfl) ?_
              refine lv_imul hx hb dL_isSo_88 ?_
              obtain ⟨hg14, hf⟩ := gd_s hf
              refine va_iald hx hb hK hP 1 0 rfl rfl hg14 dL_isSo_89 ?_
              refine lv_aload_n hx hb dL_isSo_90 rfl (lv_at hl 2 rfl) ?_
              refine lv_iconst (v := (4 : Int32)) hx hb dL_isSo_91 (by decide) ?_
              refine lv_iload hx hb dL_isSo_92 (lv_at hl 7 rfl) ?_
              refine lv_imul hx hb dL_isSo_94 ?_
              refine lv_iconst (v := (1 : Int32)) hx hb dL_isSo_95 (by decide) ?_
              refine lv_iadd hx hb dL_isSo_96 ?_
              obtain ⟨hg15, hf⟩ := gd_s hf
              refine va_iald hx hb hK hP 1 0 rfl rfl hg15 dL_isSo_97 ?_
              obtain ⟨q16, hq16, hf⟩ := ob hf
              refine cl_RSL (X0 := [(bg, .inl (cI, 15, .inl vg)), (bu, .inl (cI, 8, .inl vu)), (bh, .inl (cI, 12, .inl vh)), (bc, .inl (cI, 64, .inl vc)), (be, .inl (cI, 64, .inl ve)), (bt, .inl (cI, 36, .inl vt)), (bx, .inl (cI, 48, .inl vx))]) (As := [.int (vu ((4 : Int32) * y9_32).toNatClampNeg), .int (vu (((4 : Int32) * y9_32) + (1 : Int32)).toNatClampNeg)]) (rest := [.int q13]) hF hP hD (c_L_gap (vu ((4 : Int32) * y9_32).toNatClampNeg) (vu (((4 : Int32) * y9_32) + (1 : Int32)).toNatClampNeg) q16 hq16) (va_cwS 2 hts gL_isSo_L_gap rfl rfl rfl (by decide +kernel) ⟨(Nat.le_of_ble_eq_true rfl), (Nat.le_of_ble_eq_true rfl)⟩) [] rfl (by decide +kernel) rfl rfl hl.1 (Nat.le_of_ble_eq_true rfl) dL_isSo_98 ⟨Nat.zero_le _, Nat.zero_le _⟩ ?_
              refine lv_icmp_ne (tgt := 144) hx hb dL_isSo_101 (by decide) (fun hc17 => ?_) (fun hc17 => ?_)
              · replace hf := ie hc17 hf
                exact J144 y9_32 ls (lv_sub hl [0, 1, 2, 3, 4, 5, 7] rfl) hf
              · replace hf := it hc17 hf
                refine lv_aload_n hx hb dL_isSo_104 rfl (lv_at hl 0 rfl) ?_
                refine lv_iload hx hb dL_isSo_105 (lv_at hl 7 rfl) ?_
                refine lv_iconst (v := (3 : Int32)) hx hb dL_isSo_107 (by decide) ?_
                obtain ⟨q18, hq18, hf⟩ := ob hf
                refine cl_RO (As := [.int y9_32, .int (3 : Int32)]) (rest := []) hF hP hD hT (oq_burrOf hT y9_32 (3 : Int32) q18 hq18) (cwV 2 hts gL_isSo_X7_burrOf rfl rfl rfl (by decide +kernel) ⟨(Nat.le_of_ble_eq_true rfl), (Nat.le_of_ble_eq_true rfl)⟩) rfl rfl hl.1 (Nat.le_of_ble_eq_true rfl) dL_isSo_108 ⟨Nat.zero_le _, Nat.zero_le _⟩ ?_
                refine lv_aload_n hx hb dL_isSo_111 rfl (lv_at hl 2 rfl) ?_
                refine lv_iconst (v := (4 : Int32)) hx hb dL_isSo_112 (by decide) ?_
                refine lv_iload hx hb dL_isSo_113 (lv_at hl 7 rfl) ?_
                refine lv_imul hx hb dL_isSo_115 ?_
                refine lv_iconst (v := (2 : Int32)) hx hb dL_isSo_116 (by decide) ?_
                refine lv_iadd hx hb dL_isSo_117 ?_
                obtain ⟨hg19, hf⟩ := gd_s hf
                refine va_iald hx hb hK hP 1 0 rfl rfl hg19 dL_isSo_118 ?_
                refine lv_icmp_ne (tgt := 144) hx hb dL_isSo_119 (by decide) (fun hc20 => ?_) (fun hc20 => ?_)
                · replace hf := ie hc20 hf
                  exact J144 y9_32 ls (lv_sub hl [0, 1, 2, 3, 4, 5, 7] rfl) hf
                · replace hf := it hc20 hf
                  refine lv_aload_n hx hb dL_isSo_122 rfl (lv_at hl 0 rfl) ?_
                  refine lv_iload hx hb dL_isSo_123 (lv_at hl 7 rfl) ?_
                  refine lv_iconst (v := (4 : Int32)) hx hb dL_isSo_125 (by decide) ?_
                  obtain ⟨q21, hq21, hf⟩ := ob hf
                  refine cl_RO (As := [.int y9_32, .int (4 : Int32)]) (rest := []) hF hP hD hT (oq_burrOf hT y9_32 (4 : Int32) q21 hq21) (cwV 2 hts gL_isSo_X7_burrOf rfl rfl rfl (by decide +kernel) ⟨(Nat.le_of_ble_eq_true rfl), (Nat.le_of_ble_eq_true rfl)⟩) rfl rfl hl.1 (Nat.le_of_ble_eq_true rfl) dL_isSo_126 ⟨Nat.zero_le _, Nat.zero_le _⟩ ?_
                  refine lv_aload_n hx hb dL_isSo_129 rfl (lv_at hl 2 rfl) ?_
                  refine lv_iconst (v := (4 : Int32)) hx hb dL_isSo_130 (by decide) ?_
                  refine lv_iload hx hb dL_isSo_131 (lv_at hl 7 rfl) ?_
                  refine lv_imul hx hb dL_isSo_133 ?_
                  refine lv_iconst (v := (3 : Int32)) hx hb dL_isSo_134 (by decide) ?_
                  refine lv_iadd hx hb dL_isSo_135 ?_
                  obtain ⟨hg22, hf⟩ := gd_s hf
                  refine va_iald hx hb hK hP 1 0 rfl rfl hg22 dL_isSo_136 ?_
                  refine lv_icmp_ne (tgt := 144) hx hb dL_isSo_137 (by decide) (fun hc23 => ?_) (fun hc23 => ?_)
                  · replace hf := ie hc23 hf
                    exact J144 y9_32 ls (lv_sub hl [0, 1, 2, 3, 4, 5, 7] rfl) hf
                  · replace hf := it hc23 hf
                    refine lv_iconst (v := (1 : Int32)) hx hb dL_isSo_140 (by decide) ?_
                    refine lv_goto (tgt := 145) hx hb dL_isSo_141 (by decide) ?_
                    exact J145 y9_32 (1 : Int32) ls (lv_sub hl [0, 1, 2, 3, 4, 5, 7] rfl) hf
  have J27 : ∀ (z0_27 : Int32), ∀ ls : Array Slot, lv_has ls 11 [(0, .ref t0), (1, .ref bg), (2, .ref bu), (3, .ref bh), (6, .ref bt), (7, .ref bx)] → f_L_isSo_J27 vg vu vh vc ve vt vx og z0_27 = some R → W p l e rmL_isSo s m args below meth c s.heap [] 0 0 Q (F0 m 27 ls [.int z0_27]) := by
    intro z0_27 ls hl hf
    rw [f_L_isSo_J27] at hf
    refine lv_istore (lv' := [(8, .int z0_27), (0, .ref t0), (1, .ref bg), (2, .ref bu), (3, .ref bh), (6, .ref bt), (7, .ref bx)]) hx hb dL_isSo_27 hl (by decide) rfl (fun ls hl => ?_)
    refine lv_iconst (v := (0 : Int32)) hx hb dL_isSo_29 (by decide) ?_
    refine lv_istore (lv' := [(9, .int (0 : Int32)), (8, .int z0_27), (0, .ref t0), (1, .ref bg), (2, .ref bu), (3, .ref bh), (6, .ref bt), (7, .ref bx)]) hx hb dL_isSo_30 hl (by decide) rfl (fun ls hl => ?_)
    exact L32 FU z0_27 (0 : Int32) ls (lv_sub hl [2, 3, 4, 5, 6, 7, 1, 0] rfl) hf
  have J26 : ∀ ls : Array Slot, lv_has ls 11 [(0, .ref t0), (1, .ref bg), (2, .ref bu), (3, .ref bh), (6, .ref bt), (7, .ref bx)] → f_L_isSo_J26 vg vu vh vc ve vt vx og = some R → W p l e rmL_isSo s m args below meth c s.heap [] 0 0 Q (F0 m 26 ls []) := by
    intro  ls hl hf
    rw [f_L_isSo_J26] at hf
    refine lv_iconst (v := (0 : Int32)) hx hb dL_isSo_26 (by decide) ?_
    exact J27 (0 : Int32) ls (lv_sub hl [0, 1, 2, 3, 4, 5] rfl) hf
  rw [f_L_isSo] at hf
  refine lv_aload_n hx hb dL_isSo_0 rfl (lv_at hl 0 rfl) ?_
  refine lv_aload_n hx hb dL_isSo_1 rfl (lv_at hl 1 rfl) ?_
  refine lv_iconst (v := (0 : Int32)) hx hb dL_isSo_2 (by decide) ?_
  refine lv_aload hx hb dL_isSo_3 (lv_at hl 4 rfl) ?_
  obtain ⟨q1, hq1, hf⟩ := ob hf
  refine cl_RSO (X0 := [(bg, .inl (cI, 15, .inl vg)), (bu, .inl (cI, 8, .inl vu)), (bh, .inl (cI, 12, .inl vh)), (bc, .inl (cI, 64, .inl vc)), (be, .inl (cI, 64, .inl ve)), (bt, .inl (cI, 36, .inl vt)), (bx, .inl (cI, 48, .inl vx))]) (As := [.ref t0, .ref bg, .int (0 : Int32), .ref bc]) (rest := []) hF hP hD (c_L_arePortions bg bc t0 (0 : Int32) vg vc og hT q1 hq1) (va_cwS 4 hts gL_isSo_L_arePortions rfl rfl rfl (by decide +kernel) ⟨(Nat.le_of_ble_eq_true rfl), (Nat.le_of_ble_eq_true rfl)⟩) [0, 3] rfl (nX := 7) rfl (by decide +kernel) rfl rfl hl.1 (Nat.le_of_ble_eq_true rfl) dL_isSo_5 ⟨Nat.zero_le _, Nat.zero_le _⟩ ?_
  refine lv_if_eq (tgt := 26) hx hb dL_isSo_8 (by decide) (fun hc2 => ?_) (fun hc2 => ?_)
  · replace hf := it hc2 hf
    exact J26  ls (lv_sub hl [0, 1, 2, 3, 6, 7] rfl) hf
  · replace hf := ie hc2 hf
    refine lv_aload_n hx hb dL_isSo_11 rfl (lv_at hl 0 rfl) ?_
    refine lv_aload_n hx hb dL_isSo_12 rfl (lv_at hl 1 rfl) ?_
    refine lv_iconst (v := (1 : Int32)) hx hb dL_isSo_13 (by decide) ?_
    refine lv_aload hx hb dL_isSo_14 (lv_at hl 5 rfl) ?_
    obtain ⟨q3, hq3, hf⟩ := ob hf
    refine cl_RSO (X0 := [(bg, .inl (cI, 15, .inl vg)), (bu, .inl (cI, 8, .inl vu)), (bh, .inl (cI, 12, .inl vh)), (bc, .inl (cI, 64, .inl vc)), (be, .inl (cI, 64, .inl ve)), (bt, .inl (cI, 36, .inl vt)), (bx, .inl (cI, 48, .inl vx))]) (As := [.ref t0, .ref bg, .int (1 : Int32), .ref be]) (rest := []) hF hP hD (c_L_arePortions bg be t0 (1 : Int32) vg ve og hT q3 hq3) (va_cwS 4 hts gL_isSo_L_arePortions rfl rfl rfl (by decide +kernel) ⟨(Nat.le_of_ble_eq_true rfl), (Nat.le_of_ble_eq_true rfl)⟩) [0, 4] rfl (nX := 7) rfl (by decide +kernel) rfl rfl hl.1 (Nat.le_of_ble_eq_true rfl) dL_isSo_16 ⟨Nat.zero_le _, Nat.zero_le _⟩ ?_
    refine lv_if_eq (tgt := 26) hx hb dL_isSo_19 (by decide) (fun hc4 => ?_) (fun hc4 => ?_)
    · replace hf := it hc4 hf
      exact J26  ls (lv_sub hl [0, 1, 2, 3, 6, 7] rfl) hf
    · replace hf := ie hc4 hf
      refine lv_iconst (v := (1 : Int32)) hx hb dL_isSo_22 (by decide) ?_
      refine lv_goto (tgt := 27) hx hb dL_isSo_23 (by decide) ?_
      exact J27 (1 : Int32) ls (lv_sub hl [0, 1, 2, 3, 6, 7] rfl) hf
end
