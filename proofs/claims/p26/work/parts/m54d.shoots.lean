section
variable {l : Launch} {D : va_G} {cI cC : ClassId}

abbrev rmL_shoots : Room := { frames := 6, cells := 0, slots := 0, locals := 163 }
set_option maxHeartbeats 4000000 in
set_option maxRecDepth 100000 in
theorem c_L_shoots {w0 w : va_W} (bg : Nat) (bu : Nat) (be : Nat) (bt : Nat) (bx : Nat) (t0 : Nat) (vg : Nat → Int32) (vu : Nat → Int32) (ve : Nat → Int32) (vt : Nat → Int32) (vx : Nat → Int32) (og : Sp) (hT : OB cI cC t0 w0 og w) (R : Int32 × (Nat → Int32) × (Nat → Int32) × (Nat → Int32) × (Nat → Int32) × (Nat → Int32) × Sp) (hf : f_L_shoots vg vu ve vt vx og = some R) : WrO l yL_shoots wsL_shoots rmL_shoots D cI cC t0 w0 w [(bg, .inl (cI, 15, .inl vg)), (bu, .inl (cI, 8, .inl vu)), (be, .inl (cI, 64, .inl ve)), (bt, .inl (cI, 36, .inl vt)), (bx, .inl (cI, 48, .inl vx))] [(bg, .inl (cI, 15, .inl R.2.1)), (bu, .inl (cI, 8, .inl R.2.2.1)), (be, .inl (cI, 64, .inl R.2.2.2.1)), (bt, .inl (cI, 36, .inl R.2.2.2.2.1)), (bx, .inl (cI, 48, .inl R.2.2.2.2.2.1))] [.ref t0, .ref bg, .ref bu, .ref be, .ref bt, .ref bx] R.1 R.2.2.2.2.2.2 := by
  refine en_O (cc := cL_shoots) (n := 11) (by decide) rfl (Nat.le_of_ble_eq_true rfl) ?_
  intro p e s m args below meth c Q AA ls hx hb hml hown hts hK hN hP hD hS hST hl ret
  have hown : s.vm.findClass RL = some m.cls := hown
  have hF : FX p m c cL_shoots 11 s args wsL_shoots RL D cI cC := ⟨⟨hx, hb, hml, hown, hts⟩, hK, hN⟩
  have hl : lv_has ls 11 [(0, .ref t0), (1, .ref bg), (2, .ref bu), (3, .ref be), (4, .ref bt), (5, .ref bx)] := hl
  have k1_ := hts (.constant RL 15 (-1000002)) (List.mem_of_getElem? (i := 1) rfl)
  have J345 : ∀ (y6_345 : Int32) (vg_345 : Nat → Int32) (vu_345 : Nat → Int32) (ve_345 : Nat → Int32) (vt_345 : Nat → Int32) (vx_345 : Nat → Int32) (og_345 : Sp) (w : va_W) (H : Heap) (locs : List Loc), OB cI cC t0 w0 og_345 w → va_P D vwCl ([(bg, .inl (cI, 15, .inl vg_345)), (bu, .inl (cI, 8, .inl vu_345)), (be, .inl (cI, 64, .inl ve_345)), (bt, .inl (cI, 36, .inl vt_345)), (bx, .inl (cI, 48, .inl vx_345))] ++ w) H → va_D AA ([(bg, .inl (cI, 15, .inl vg_345)), (bu, .inl (cI, 8, .inl vu_345)), (be, .inl (cI, 64, .inl ve_345)), (bt, .inl (cI, 36, .inl vt_345)), (bx, .inl (cI, 48, .inl vx_345))] ++ w) → va_S AA s.heap H locs → ∀ ls : Array Slot, lv_has ls 11 [(0, .ref t0), (1, .ref bg), (2, .ref bu), (6, .int y6_345)] → f_L_shoots_J345 y6_345 vg_345 vu_345 ve_345 vt_345 vx_345 og_345 = some R → W p l e rmL_shoots s m args below meth c H locs 0 0 Q (F0 m 345 ls []) := by
    intro y6_345 vg_345 vu_345 ve_345 vt_345 vx_345 og_345 w H locs hT hP hD hS ls hl hf
    rw [f_L_shoots_J345] at hf
    refine lv_aload_n hx hb dL_shoots_345 rfl (lv_at hl 1 rfl) ?_
    refine lv_aload_n hx hb dL_shoots_346 rfl (lv_at hl 2 rfl) ?_
    refine lv_iload hx hb dL_shoots_347 (lv_at hl 3 rfl) ?_
    refine lv_bipush (v := (10 : Int32)) hx hb dL_shoots_349 (by decide) ?_
    refine lv_idiv hx hb dL_shoots_351 (by decide) ?_
    obtain ⟨q60, hq60, hf⟩ := ob hf
    refine cl_WSL (X0 := [(bg, .inl (cI, 15, .inl vg_345)), (bu, .inl (cI, 8, .inl vu_345)), (be, .inl (cI, 64, .inl ve_345)), (bt, .inl (cI, 36, .inl vt_345)), (bx, .inl (cI, 48, .inl vx_345))]) (X1 := [(bg, .inl (cI, 15, .inl q60.2.1)), (bu, .inl (cI, 8, .inl q60.2.2)), (be, .inl (cI, 64, .inl ve_345)), (bt, .inl (cI, 36, .inl vt_345)), (bx, .inl (cI, 48, .inl vx_345))]) (As := [.ref bg, .ref bu, .int (y6_345 / (10 : Int32))]) (rest := []) hF hP hD hS (c_L_pass bg bu (y6_345 / (10 : Int32)) vg_345 vu_345 q60 hq60) (va_cwS 3 hts gL_shoots_L_pass rfl rfl rfl (by decide +kernel) ⟨(Nat.le_of_ble_eq_true rfl), (Nat.le_of_ble_eq_true rfl)⟩) [0, 1] rfl (by decide +kernel) rfl rfl hl.1 (Nat.le_of_ble_eq_true rfl) dL_shoots_352 ⟨Nat.zero_le _, Nat.zero_le _⟩ (hA2 [bg, bu] rfl rfl) [2, 3, 4] rfl [(be, .inl (cI, 64, .inl ve_345)), (bt, .inl (cI, 36, .inl vt_345)), (bx, .inl (cI, 48, .inl vx_345))] rfl rfl (nX := 5) rfl rfl (by decide +kernel) (fun H locs hP hD hS => ?_)
    refine lv_pop hx hb dL_shoots_355 rfl ?_
    refine lv_aload_n hx hb dL_shoots_356 rfl (lv_at hl 0 rfl) ?_
    obtain ⟨q61, hq61, hf⟩ := ob hf
    refine cl_WO (As := []) (rest := []) hF hP hD hS (oo_shot hT  q61 hq61) (cwV 0 hts gL_shoots_X7_shot rfl rfl rfl (by decide +kernel) ⟨(Nat.le_of_ble_eq_true rfl), (Nat.le_of_ble_eq_true rfl)⟩) rfl rfl hl.1 (Nat.le_of_ble_eq_true rfl) dL_shoots_357 ⟨Nat.zero_le _, Nat.zero_le _⟩ (fun w H locs hT hP hD hS => ?_)
    refine lv_iload hx hb dL_shoots_360 (lv_at hl 3 rfl) ?_
    refine lv_icmp_ne (tgt := 369) hx hb dL_shoots_362 (by decide) (fun hc62 => ?_) (fun hc62 => ?_)
    · replace hf := ie hc62 hf
      refine lv_iconst (v := (0 : Int32)) hx hb dL_shoots_369 (by decide) ?_
      obtain rfl := Option.some.inj hf
      exact ret 370 ls _ w H locs dL_shoots_370 (by decide) rfl hT hP hS
    · replace hf := it hc62 hf
      refine lv_iconst (v := (1 : Int32)) hx hb dL_shoots_365 (by decide) ?_
      refine lv_goto (tgt := 370) hx hb dL_shoots_366 (by decide) ?_
      obtain rfl := Option.some.inj hf
      exact ret 370 ls _ w H locs dL_shoots_370 (by decide) rfl hT hP hS
  have J319 : ∀ (y6_319 : Int32) (y10_319 : Int32) (z0_319 : Int32) (z1_319 : Int32) (z2_319 : Int32) (vg_319 : Nat → Int32) (vu_319 : Nat → Int32) (ve_319 : Nat → Int32) (vt_319 : Nat → Int32) (vx_319 : Nat → Int32) (og_319 : Sp) (w : va_W) (H : Heap) (locs : List Loc), OB cI cC t0 w0 og_319 w → va_P D vwCl ([(bg, .inl (cI, 15, .inl vg_319)), (bu, .inl (cI, 8, .inl vu_319)), (be, .inl (cI, 64, .inl ve_319)), (bt, .inl (cI, 36, .inl vt_319)), (bx, .inl (cI, 48, .inl vx_319))] ++ w) H → va_D AA ([(bg, .inl (cI, 15, .inl vg_319)), (bu, .inl (cI, 8, .inl vu_319)), (be, .inl (cI, 64, .inl ve_319)), (bt, .inl (cI, 36, .inl vt_319)), (bx, .inl (cI, 48, .inl vx_319))] ++ w) → va_S AA s.heap H locs → ∀ ls : Array Slot, lv_has ls 11 [(0, .ref t0), (1, .ref bg), (2, .ref bu), (5, .ref bx), (6, .int y6_319), (10, .int y10_319)] → f_L_shoots_J319 y6_319 y10_319 z0_319 z1_319 z2_319 vg_319 vu_319 ve_319 vt_319 vx_319 og_319 = some R → W p l e rmL_shoots s m args below meth c H locs 0 0 Q (F0 m 319 ls [.int z0_319, .int z1_319, .int z2_319, .ref bg]) := by
    intro y6_319 y10_319 z0_319 z1_319 z2_319 vg_319 vu_319 ve_319 vt_319 vx_319 og_319 w H locs hT hP hD hS ls hl hf
    rw [f_L_shoots_J319] at hf
    refine lv_iadd hx hb dL_shoots_319 ?_
    refine lv_topi (fun v54 ev54 => ?_)
    replace hf := lt_e ev54 hf
    obtain ⟨hg55, hf⟩ := gd_s hf
    refine x_iast hx hb hK hP hD hS 0 0 rfl rfl hg55 dL_shoots_320 (fun Z56 H locs eZ56 hP hD hS => ?_)
    replace hf := lt_e eZ56 hf
    have hP : va_P D vwCl ([(bg, .inl (cI, 15, .inl Z56)), (bu, .inl (cI, 8, .inl vu_319)), (be, .inl (cI, 64, .inl ve_319)), (bt, .inl (cI, 36, .inl vt_319)), (bx, .inl (cI, 48, .inl vx_319))] ++ w) H := hP
    have hD : va_D AA ([(bg, .inl (cI, 15, .inl Z56)), (bu, .inl (cI, 8, .inl vu_319)), (be, .inl (cI, 64, .inl ve_319)), (bt, .inl (cI, 36, .inl vt_319)), (bx, .inl (cI, 48, .inl vx_319))] ++ w) := hD
    refine lv_iload hx hb dL_shoots_321 (lv_at hl 5 rfl) ?_
    refine lv_if_ne (tgt := 345) hx hb dL_shoots_323 (by decide) (fun hc57 => ?_) (fun hc57 => ?_)
    · replace hf := ie hc57 hf
      exact J345 y6_319 Z56 vu_319 ve_319 vt_319 vx_319 og_319 w H locs hT hP hD hS ls (lv_sub hl [0, 1, 2, 4] rfl) hf
    · replace hf := it hc57 hf
      refine lv_aload_n hx hb dL_shoots_326 rfl (lv_at hl 1 rfl) ?_
      refine lv_bipush (v := (12 : Int32)) hx hb dL_shoots_327 (by decide) ?_
      refine va_iald hx hb hK hP 0 0 rfl rfl (show ¬ ((12 : Int32) < 0 ∨ 15 ≤ (12 : Int32).toNatClampNeg) by decide) dL_shoots_329 ?_
      refine lv_iconst (v := (1 : Int32)) hx hb dL_shoots_330 (by decide) ?_
      refine lv_icmp_ne (tgt := 345) hx hb dL_shoots_331 (by decide) (fun hc58 => ?_) (fun hc58 => ?_)
      · replace hf := ie hc58 hf
        exact J345 y6_319 Z56 vu_319 ve_319 vt_319 vx_319 og_319 w H locs hT hP hD hS ls (lv_sub hl [0, 1, 2, 4] rfl) hf
      · replace hf := it hc58 hf
        refine lv_aload_n hx hb dL_shoots_334 rfl (lv_at hl 1 rfl) ?_
        refine lv_aload_n hx hb dL_shoots_335 rfl (lv_at hl 2 rfl) ?_
        refine lv_aload hx hb dL_shoots_336 (lv_at hl 3 rfl) ?_
        refine lv_iconst (v := (0 : Int32)) hx hb dL_shoots_338 (by decide) ?_
        refine va_iald hx hb hK hP 4 0 rfl rfl (show ¬ ((0 : Int32) < 0 ∨ 48 ≤ (0 : Int32).toNatClampNeg) by decide) dL_shoots_339 ?_
        refine lv_iload hx hb dL_shoots_340 (lv_at hl 4 rfl) ?_
        obtain ⟨q59, hq59, hf⟩ := ob hf
        refine cl_VSL (X0 := [(bg, .inl (cI, 15, .inl Z56)), (bu, .inl (cI, 8, .inl vu_319)), (be, .inl (cI, 64, .inl ve_319)), (bt, .inl (cI, 36, .inl vt_319)), (bx, .inl (cI, 48, .inl vx_319))]) (X1 := [(bg, .inl (cI, 15, .inl Z56)), (bu, .inl (cI, 8, .inl q59)), (be, .inl (cI, 64, .inl ve_319)), (bt, .inl (cI, 36, .inl vt_319)), (bx, .inl (cI, 48, .inl vx_319))]) (As := [.ref bg, .ref bu, .int (vx_319 (0 : Int32).toNatClampNeg), .int y6_319]) (rest := []) hF hP hD hS (c_L_correct bg bu (vx_319 (0 : Int32).toNatClampNeg) y6_319 Z56 vu_319 q59 hq59) (va_cwS 4 hts gL_shoots_L_correct rfl rfl rfl (by decide +kernel) ⟨(Nat.le_of_ble_eq_true rfl), (Nat.le_of_ble_eq_true rfl)⟩) [0, 1] rfl (by decide +kernel) rfl rfl hl.1 (Nat.le_of_ble_eq_true rfl) dL_shoots_342 ⟨Nat.zero_le _, Nat.zero_le _⟩ (hA2 [bg, bu] rfl rfl) [2, 3, 4] rfl [(be, .inl (cI, 64, .inl ve_319)), (bt, .inl (cI, 36, .inl vt_319)), (bx, .inl (cI, 48, .inl vx_319))] rfl rfl (nX := 5) rfl rfl (by decide +kernel) (fun H locs hP hD hS => ?_)
        exact J345 y6_319 Z56 q59 ve_319 vt_319 vx_319 og_319 w H locs hT hP hD hS ls (lv_sub hl [0, 1, 2, 4] rfl) hf
  have J302 : ∀ (y6_302 : Int32) (z0_302 : Int32) (vg_302 : Nat → Int32) (vu_302 : Nat → Int32) (ve_302 : Nat → Int32) (vt_302 : Nat → Int32) (vx_302 : Nat → Int32) (og_302 : Sp) (w : va_W) (H : Heap) (locs : List Loc), OB cI cC t0 w0 og_302 w → va_P D vwCl ([(bg, .inl (cI, 15, .inl vg_302)), (bu, .inl (cI, 8, .inl vu_302)), (be, .inl (cI, 64, .inl ve_302)), (bt, .inl (cI, 36, .inl vt_302)), (bx, .inl (cI, 48, .inl vx_302))] ++ w) H → va_D AA ([(bg, .inl (cI, 15, .inl vg_302)), (bu, .inl (cI, 8, .inl vu_302)), (be, .inl (cI, 64, .inl ve_302)), (bt, .inl (cI, 36, .inl vt_302)), (bx, .inl (cI, 48, .inl vx_302))] ++ w) → va_S AA s.heap H locs → ∀ ls : Array Slot, lv_has ls 11 [(0, .ref t0), (1, .ref bg), (2, .ref bu), (5, .ref bx), (6, .int y6_302)] → f_L_shoots_J302 y6_302 z0_302 vg_302 vu_302 ve_302 vt_302 vx_302 og_302 = some R → W p l e rmL_shoots s m args below meth c H locs 0 0 Q (F0 m 302 ls [.int z0_302]) := by
    intro y6_302 z0_302 vg_302 vu_302 ve_302 vt_302 vx_302 og_302 w H locs hT hP hD hS ls hl hf
    rw [f_L_shoots_J302] at hf
    refine lv_istore (lv' := [(10, .int z0_302), (0, .ref t0), (1, .ref bg), (2, .ref bu), (5, .ref bx), (6, .int y6_302)]) hx hb dL_shoots_302 hl (by decide) rfl (fun ls hl => ?_)
    refine lv_aload_n hx hb dL_shoots_304 rfl (lv_at hl 2 rfl) ?_
    refine lv_bipush (v := (6 : Int32)) hx hb dL_shoots_305 (by decide) ?_
    refine lv_dup2_11 hx hb dL_shoots_307 rfl rfl ?_
    refine va_iald hx hb hK hP 0 0 rfl rfl (show ¬ ((6 : Int32) < 0 ∨ 15 ≤ (6 : Int32).toNatClampNeg) by decide) dL_shoots_308 ?_
    refine lv_iload hx hb dL_shoots_309 (lv_at hl 0 rfl) ?_
    refine lv_if_eq (tgt := 318) hx hb dL_shoots_311 (by decide) (fun hc53 => ?_) (fun hc53 => ?_)
    · replace hf := it hc53 hf
      refine lv_iconst (v := (0 : Int32)) hx hb dL_shoots_318 (by decide) ?_
      exact J319 y6_302 z0_302 (0 : Int32) (vg_302 (6 : Int32).toNatClampNeg) (6 : Int32) vg_302 vu_302 ve_302 vt_302 vx_302 og_302 w H locs hT hP hD hS ls (lv_sub hl [1, 2, 3, 4, 5, 0] rfl) hf
    · replace hf := ie hc53 hf
      refine lv_iconst (v := (1 : Int32)) hx hb dL_shoots_314 (by decide) ?_
      refine lv_goto (tgt := 319) hx hb dL_shoots_315 (by decide) ?_
      exact J319 y6_302 z0_302 (1 : Int32) (vg_302 (6 : Int32).toNatClampNeg) (6 : Int32) vg_302 vu_302 ve_302 vt_302 vx_302 og_302 w H locs hT hP hD hS ls (lv_sub hl [1, 2, 3, 4, 5, 0] rfl) hf
  have J263 : ∀ (y6_263 : Int32) (y7_263 : Int32) (z0_263 : Int32) (z1_263 : Int32) (z2_263 : Int32) (vg_263 : Nat → Int32) (vu_263 : Nat → Int32) (ve_263 : Nat → Int32) (vt_263 : Nat → Int32) (vx_263 : Nat → Int32) (og_263 : Sp) (w : va_W) (H : Heap) (locs : List Loc), OB cI cC t0 w0 og_263 w → va_P D vwCl ([(bg, .inl (cI, 15, .inl vg_263)), (bu, .inl (cI, 8, .inl vu_263)), (be, .inl (cI, 64, .inl ve_263)), (bt, .inl (cI, 36, .inl vt_263)), (bx, .inl (cI, 48, .inl vx_263))] ++ w) H → va_D AA ([(bg, .inl (cI, 15, .inl vg_263)), (bu, .inl (cI, 8, .inl vu_263)), (be, .inl (cI, 64, .inl ve_263)), (bt, .inl (cI, 36, .inl vt_263)), (bx, .inl (cI, 48, .inl vx_263))] ++ w) → va_S AA s.heap H locs → ∀ ls : Array Slot, lv_has ls 11 [(0, .ref t0), (1, .ref bg), (2, .ref bu), (3, .ref be), (5, .ref bx), (6, .int y6_263), (7, .int y7_263)] → f_L_shoots_J263 y6_263 y7_263 z0_263 z1_263 z2_263 vg_263 vu_263 ve_263 vt_263 vx_263 og_263 = some R → W p l e rmL_shoots s m args below meth c H locs 0 0 Q (F0 m 263 ls [.int z0_263, .int z1_263, .int z2_263, .ref bg]) := by
    intro y6_263 y7_263 z0_263 z1_263 z2_263 vg_263 vu_263 ve_263 vt_263 vx_263 og_263 w H locs hT hP hD hS ls hl hf
    rw [f_L_shoots_J263] at hf
    refine lv_iadd hx hb dL_shoots_263 ?_
    refine lv_topi (fun v43 ev43 => ?_)
    replace hf := lt_e ev43 hf
    obtain ⟨hg44, hf⟩ := gd_s hf
    refine x_iast hx hb hK hP hD hS 0 0 rfl rfl hg44 dL_shoots_264 (fun Z45 H locs eZ45 hP hD hS => ?_)
    replace hf := lt_e eZ45 hf
    have hP : va_P D vwCl ([(bg, .inl (cI, 15, .inl Z45)), (bu, .inl (cI, 8, .inl vu_263)), (be, .inl (cI, 64, .inl ve_263)), (bt, .inl (cI, 36, .inl vt_263)), (bx, .inl (cI, 48, .inl vx_263))] ++ w) H := hP
    have hD : va_D AA ([(bg, .inl (cI, 15, .inl Z45)), (bu, .inl (cI, 8, .inl vu_263)), (be, .inl (cI, 64, .inl ve_263)), (bt, .inl (cI, 36, .inl vt_263)), (bx, .inl (cI, 48, .inl vx_263))] ++ w) := hD
    refine lv_aload_n hx hb dL_shoots_265 rfl (lv_at hl 1 rfl) ?_
    refine lv_iconst (v := (5 : Int32)) hx hb dL_shoots_266 (by decide) ?_
    refine lv_dup2_11 hx hb dL_shoots_267 rfl rfl ?_
    refine va_iald hx hb hK hP 0 0 rfl rfl (show ¬ ((5 : Int32) < 0 ∨ 15 ≤ (5 : Int32).toNatClampNeg) by decide) dL_shoots_268 ?_
    refine lv_iconst (v := (1 : Int32)) hx hb dL_shoots_269 (by decide) ?_
    refine lv_iadd hx hb dL_shoots_270 ?_
    refine lv_topi (fun v46 ev46 => ?_)
    replace hf := lt_e ev46 hf
    refine x_iast hx hb hK hP hD hS 0 0 rfl rfl (show ¬ ((5 : Int32) < 0 ∨ 15 ≤ (5 : Int32).toNatClampNeg) by decide) dL_shoots_271 (fun Z47 H locs eZ47 hP hD hS => ?_)
    replace hf := lt_e eZ47 hf
    have hP : va_P D vwCl ([(bg, .inl (cI, 15, .inl Z47)), (bu, .inl (cI, 8, .inl vu_263)), (be, .inl (cI, 64, .inl ve_263)), (bt, .inl (cI, 36, .inl vt_263)), (bx, .inl (cI, 48, .inl vx_263))] ++ w) H := hP
    have hD : va_D AA ([(bg, .inl (cI, 15, .inl Z47)), (bu, .inl (cI, 8, .inl vu_263)), (be, .inl (cI, 64, .inl ve_263)), (bt, .inl (cI, 36, .inl vt_263)), (bx, .inl (cI, 48, .inl vx_263))] ++ w) := hD
    refine lv_aload_n hx hb dL_shoots_272 rfl (lv_at hl 1 rfl) ?_
    refine lv_iconst (v := (3 : Int32)) hx hb dL_shoots_273 (by decide) ?_
    refine lv_dup2_11 hx hb dL_shoots_274 rfl rfl ?_
    refine va_iald hx hb hK hP 0 0 rfl rfl (show ¬ ((3 : Int32) < 0 ∨ 15 ≤ (3 : Int32).toNatClampNeg) by decide) dL_shoots_275 ?_
    refine lv_iload hx hb dL_shoots_276 (lv_at hl 6 rfl) ?_
    refine lv_iadd hx hb dL_shoots_278 ?_
    refine lv_topi (fun v48 ev48 => ?_)
    replace hf := lt_e ev48 hf
    refine x_iast hx hb hK hP hD hS 0 0 rfl rfl (show ¬ ((3 : Int32) < 0 ∨ 15 ≤ (3 : Int32).toNatClampNeg) by decide) dL_shoots_279 (fun Z49 H locs eZ49 hP hD hS => ?_)
    replace hf := lt_e eZ49 hf
    have hP : va_P D vwCl ([(bg, .inl (cI, 15, .inl Z49)), (bu, .inl (cI, 8, .inl vu_263)), (be, .inl (cI, 64, .inl ve_263)), (bt, .inl (cI, 36, .inl vt_263)), (bx, .inl (cI, 48, .inl vx_263))] ++ w) H := hP
    have hD : va_D AA ([(bg, .inl (cI, 15, .inl Z49)), (bu, .inl (cI, 8, .inl vu_263)), (be, .inl (cI, 64, .inl ve_263)), (bt, .inl (cI, 36, .inl vt_263)), (bx, .inl (cI, 48, .inl vx_263))] ++ w) := hD
    refine lv_aload_n hx hb dL_shoots_280 rfl (lv_at hl 3 rfl) ?_
    refine lv_iconst (v := (0 : Int32)) hx hb dL_shoots_281 (by decide) ?_
    refine lv_iconst (v := (0 : Int32)) hx hb dL_shoots_282 (by decide) ?_
    refine x_iast hx hb hK hP hD hS 2 0 rfl rfl (show ¬ ((0 : Int32) < 0 ∨ 64 ≤ (0 : Int32).toNatClampNeg) by decide) dL_shoots_283 (fun Z50 H locs eZ50 hP hD hS => ?_)
    replace hf := lt_e eZ50 hf
    have hP : va_P D vwCl ([(bg, .inl (cI, 15, .inl Z49)), (bu, .inl (cI, 8, .inl vu_263)), (be, .inl (cI, 64, .inl Z50)), (bt, .inl (cI, 36, .inl vt_263)), (bx, .inl (cI, 48, .inl vx_263))] ++ w) H := hP
    have hD : va_D AA ([(bg, .inl (cI, 15, .inl Z49)), (bu, .inl (cI, 8, .inl vu_263)), (be, .inl (cI, 64, .inl Z50)), (bt, .inl (cI, 36, .inl vt_263)), (bx, .inl (cI, 48, .inl vx_263))] ++ w) := hD
    refine lv_aload_n hx hb dL_shoots_284 rfl (lv_at hl 1 rfl) ?_
    refine lv_iload hx hb dL_shoots_285 (lv_at hl 5 rfl) ?_
    obtain ⟨q51, hq51, hf⟩ := ob hf
    refine cl_RSL (X0 := [(bg, .inl (cI, 15, .inl Z49)), (bu, .inl (cI, 8, .inl vu_263)), (be, .inl (cI, 64, .inl Z50)), (bt, .inl (cI, 36, .inl vt_263)), (bx, .inl (cI, 48, .inl vx_263))]) (As := [.ref bg, .int y6_263]) (rest := []) hF hP hD (c_L_away bg y6_263 Z49 q51 hq51) (va_cwS 2 hts gL_shoots_L_away rfl rfl rfl (by decide +kernel) ⟨(Nat.le_of_ble_eq_true rfl), (Nat.le_of_ble_eq_true rfl)⟩) [0] rfl (by decide +kernel) rfl rfl hl.1 (Nat.le_of_ble_eq_true rfl) dL_shoots_287 ⟨Nat.zero_le _, Nat.zero_le _⟩ ?_
    refine lv_aload_n hx hb dL_shoots_290 rfl (lv_at hl 1 rfl) ?_
    refine lv_bipush (v := (8 : Int32)) hx hb dL_shoots_291 (by decide) ?_
    refine va_iald hx hb hK hP 0 0 rfl rfl (show ¬ ((8 : Int32) < 0 ∨ 15 ≤ (8 : Int32).toNatClampNeg) by decide) dL_shoots_293 ?_
    refine lv_icmp_gt (tgt := 301) hx hb dL_shoots_294 (by decide) (fun hc52 => ?_) (fun hc52 => ?_)
    · replace hf := it hc52 hf
      refine lv_iconst (v := (0 : Int32)) hx hb dL_shoots_301 (by decide) ?_
      exact J302 y6_263 (0 : Int32) Z49 vu_263 Z50 vt_263 vx_263 og_263 w H locs hT hP hD hS ls (lv_sub hl [0, 1, 2, 4, 5] rfl) hf
    · replace hf := ie hc52 hf
      refine lv_iconst (v := (1 : Int32)) hx hb dL_shoots_297 (by decide) ?_
      refine lv_goto (tgt := 302) hx hb dL_shoots_298 (by decide) ?_
      exact J302 y6_263 (1 : Int32) Z49 vu_263 Z50 vt_263 vx_263 og_263 w H locs hT hP hD hS ls (lv_sub hl [0, 1, 2, 4, 5] rfl) hf
  have J229 : ∀ (y6_229 : Int32) (y7_229 : Int32) (z0_229 : Int32) (z1_229 : Int32) (vg_229 : Nat → Int32) (vu_229 : Nat → Int32) (ve_229 : Nat → Int32) (vt_229 : Nat → Int32) (vx_229 : Nat → Int32) (og_229 : Sp) (w : va_W) (H : Heap) (locs : List Loc), OB cI cC t0 w0 og_229 w → va_P D vwCl ([(bg, .inl (cI, 15, .inl vg_229)), (bu, .inl (cI, 8, .inl vu_229)), (be, .inl (cI, 64, .inl ve_229)), (bt, .inl (cI, 36, .inl vt_229)), (bx, .inl (cI, 48, .inl vx_229))] ++ w) H → va_D AA ([(bg, .inl (cI, 15, .inl vg_229)), (bu, .inl (cI, 8, .inl vu_229)), (be, .inl (cI, 64, .inl ve_229)), (bt, .inl (cI, 36, .inl vt_229)), (bx, .inl (cI, 48, .inl vx_229))] ++ w) → va_S AA s.heap H locs → ∀ ls : Array Slot, lv_has ls 11 [(0, .ref t0), (1, .ref bg), (2, .ref bu), (3, .ref be), (5, .ref bx), (6, .int y6_229), (7, .int y7_229)] → f_L_shoots_J229 y6_229 y7_229 z0_229 z1_229 vg_229 vu_229 ve_229 vt_229 vx_229 og_229 = some R → W p l e rmL_shoots s m args below meth c H locs 0 0 Q (F0 m 229 ls [.int z0_229, .int z1_229, .ref bx]) := by
    intro y6_229 y7_229 z0_229 z1_229 vg_229 vu_229 ve_229 vt_229 vx_229 og_229 w H locs hT hP hD hS ls hl hf
    rw [f_L_shoots_J229] at hf
    obtain ⟨hg36, hf⟩ := gd_s hf
    refine x_iast hx hb hK hP hD hS 4 0 rfl rfl hg36 dL_shoots_229 (fun Z37 H locs eZ37 hP hD hS => ?_)
    replace hf := lt_e eZ37 hf
    have hP : va_P D vwCl ([(bg, .inl (cI, 15, .inl vg_229)), (bu, .inl (cI, 8, .inl vu_229)), (be, .inl (cI, 64, .inl ve_229)), (bt, .inl (cI, 36, .inl vt_229)), (bx, .inl (cI, 48, .inl Z37))] ++ w) H := hP
    have hD : va_D AA ([(bg, .inl (cI, 15, .inl vg_229)), (bu, .inl (cI, 8, .inl vu_229)), (be, .inl (cI, 64, .inl ve_229)), (bt, .inl (cI, 36, .inl vt_229)), (bx, .inl (cI, 48, .inl Z37))] ++ w) := hD
    refine lv_aload hx hb dL_shoots_230 (lv_at hl 4 rfl) ?_
    refine lv_iconst (v := (2 : Int32)) hx hb dL_shoots_232 (by decide) ?_
    refine lv_aload_n hx hb dL_shoots_233 rfl (lv_at hl 1 rfl) ?_
    refine lv_iconst (v := (0 : Int32)) hx hb dL_shoots_234 (by decide) ?_
    refine va_iald hx hb hK hP 0 0 rfl rfl (show ¬ ((0 : Int32) < 0 ∨ 15 ≤ (0 : Int32).toNatClampNeg) by decide) dL_shoots_235 ?_
    refine lv_topi (fun v38 ev38 => ?_)
    replace hf := lt_e ev38 hf
    refine x_iast hx hb hK hP hD hS 4 0 rfl rfl (show ¬ ((2 : Int32) < 0 ∨ 48 ≤ (2 : Int32).toNatClampNeg) by decide) dL_shoots_236 (fun Z39 H locs eZ39 hP hD hS => ?_)
    replace hf := lt_e eZ39 hf
    have hP : va_P D vwCl ([(bg, .inl (cI, 15, .inl vg_229)), (bu, .inl (cI, 8, .inl vu_229)), (be, .inl (cI, 64, .inl ve_229)), (bt, .inl (cI, 36, .inl vt_229)), (bx, .inl (cI, 48, .inl Z39))] ++ w) H := hP
    have hD : va_D AA ([(bg, .inl (cI, 15, .inl vg_229)), (bu, .inl (cI, 8, .inl vu_229)), (be, .inl (cI, 64, .inl ve_229)), (bt, .inl (cI, 36, .inl vt_229)), (bx, .inl (cI, 48, .inl Z39))] ++ w) := hD
    refine lv_aload hx hb dL_shoots_237 (lv_at hl 4 rfl) ?_
    refine lv_iconst (v := (3 : Int32)) hx hb dL_shoots_239 (by decide) ?_
    refine lv_aload_n hx hb dL_shoots_240 rfl (lv_at hl 3 rfl) ?_
    refine lv_iconst (v := (0 : Int32)) hx hb dL_shoots_241 (by decide) ?_
    refine va_iald hx hb hK hP 2 0 rfl rfl (show ¬ ((0 : Int32) < 0 ∨ 64 ≤ (0 : Int32).toNatClampNeg) by decide) dL_shoots_242 ?_
    refine lv_topi (fun v40 ev40 => ?_)
    replace hf := lt_e ev40 hf
    refine x_iast hx hb hK hP hD hS 4 0 rfl rfl (show ¬ ((3 : Int32) < 0 ∨ 48 ≤ (3 : Int32).toNatClampNeg) by decide) dL_shoots_243 (fun Z41 H locs eZ41 hP hD hS => ?_)
    replace hf := lt_e eZ41 hf
    have hP : va_P D vwCl ([(bg, .inl (cI, 15, .inl vg_229)), (bu, .inl (cI, 8, .inl vu_229)), (be, .inl (cI, 64, .inl ve_229)), (bt, .inl (cI, 36, .inl vt_229)), (bx, .inl (cI, 48, .inl Z41))] ++ w) H := hP
    have hD : va_D AA ([(bg, .inl (cI, 15, .inl vg_229)), (bu, .inl (cI, 8, .inl vu_229)), (be, .inl (cI, 64, .inl ve_229)), (bt, .inl (cI, 36, .inl vt_229)), (bx, .inl (cI, 48, .inl Z41))] ++ w) := hD
    refine lv_aload_n hx hb dL_shoots_244 rfl (lv_at hl 1 rfl) ?_
    refine lv_bipush (v := (14 : Int32)) hx hb dL_shoots_245 (by decide) ?_
    refine lv_dup2_11 hx hb dL_shoots_247 rfl rfl ?_
    refine va_iald hx hb hK hP 0 0 rfl rfl (show ¬ ((14 : Int32) < 0 ∨ 15 ≤ (14 : Int32).toNatClampNeg) by decide) dL_shoots_248 ?_
    refine lv_aload_n hx hb dL_shoots_249 rfl (lv_at hl 1 rfl) ?_
    refine lv_bipush (v := (14 : Int32)) hx hb dL_shoots_250 (by decide) ?_
    refine va_iald hx hb hK hP 0 0 rfl rfl (show ¬ ((14 : Int32) < 0 ∨ 15 ≤ (14 : Int32).toNatClampNeg) by decide) dL_shoots_252 ?_
    refine lv_bipush (v := (12 : Int32)) hx hb dL_shoots_253 (by decide) ?_
    refine lv_icmp_ge (tgt := 262) hx hb dL_shoots_255 (by decide) (fun hc42 => ?_) (fun hc42 => ?_)
    · replace hf := it hc42 hf
      refine lv_iconst (v := (0 : Int32)) hx hb dL_shoots_262 (by decide) ?_
      exact J263 y6_229 y7_229 (0 : Int32) (vg_229 (14 : Int32).toNatClampNeg) (14 : Int32) vg_229 vu_229 ve_229 vt_229 Z41 og_229 w H locs hT hP hD hS ls (lv_sub hl [0, 1, 2, 3, 4, 5, 6] rfl) hf
    · replace hf := ie hc42 hf
      refine lv_iconst (v := (1 : Int32)) hx hb dL_shoots_258 (by decide) ?_
      refine lv_goto (tgt := 263) hx hb dL_shoots_259 (by decide) ?_
      exact J263 y6_229 y7_229 (1 : Int32) (vg_229 (14 : Int32).toNatClampNeg) (14 : Int32) vg_229 vu_229 ve_229 vt_229 Z41 og_229 w H locs hT hP hD hS ls (lv_sub hl [0, 1, 2, 3, 4, 5, 6] rfl) hf
  have J210 : ∀ (y6_210 : Int32) (y7_210 : Int32) (y9_210 : Int32) (z0_210 : Int32) (z1_210 : Int32) (vg_210 : Nat → Int32) (vu_210 : Nat → Int32) (ve_210 : Nat → Int32) (vt_210 : Nat → Int32) (vx_210 : Nat → Int32) (og_210 : Sp) (w : va_W) (H : Heap) (locs : List Loc), OB cI cC t0 w0 og_210 w → va_P D vwCl ([(bg, .inl (cI, 15, .inl vg_210)), (bu, .inl (cI, 8, .inl vu_210)), (be, .inl (cI, 64, .inl ve_210)), (bt, .inl (cI, 36, .inl vt_210)), (bx, .inl (cI, 48, .inl vx_210))] ++ w) H → va_D AA ([(bg, .inl (cI, 15, .inl vg_210)), (bu, .inl (cI, 8, .inl vu_210)), (be, .inl (cI, 64, .inl ve_210)), (bt, .inl (cI, 36, .inl vt_210)), (bx, .inl (cI, 48, .inl vx_210))] ++ w) → va_S AA s.heap H locs → ∀ ls : Array Slot, lv_has ls 11 [(0, .ref t0), (1, .ref bg), (2, .ref bu), (3, .ref be), (5, .ref bx), (6, .int y6_210), (7, .int y7_210), (9, .int y9_210)] → f_L_shoots_J210 y6_210 y7_210 y9_210 z0_210 z1_210 vg_210 vu_210 ve_210 vt_210 vx_210 og_210 = some R → W p l e rmL_shoots s m args below meth c H locs 0 0 Q (F0 m 210 ls [.int z0_210, .int z1_210, .ref bx]) := by
    intro y6_210 y7_210 y9_210 z0_210 z1_210 vg_210 vu_210 ve_210 vt_210 vx_210 og_210 w H locs hT hP hD hS ls hl hf
    rw [f_L_shoots_J210] at hf
    obtain ⟨hg33, hf⟩ := gd_s hf
    refine x_iast hx hb hK hP hD hS 4 0 rfl rfl hg33 dL_shoots_210 (fun Z34 H locs eZ34 hP hD hS => ?_)
    replace hf := lt_e eZ34 hf
    have hP : va_P D vwCl ([(bg, .inl (cI, 15, .inl vg_210)), (bu, .inl (cI, 8, .inl vu_210)), (be, .inl (cI, 64, .inl ve_210)), (bt, .inl (cI, 36, .inl vt_210)), (bx, .inl (cI, 48, .inl Z34))] ++ w) H := hP
    have hD : va_D AA ([(bg, .inl (cI, 15, .inl vg_210)), (bu, .inl (cI, 8, .inl vu_210)), (be, .inl (cI, 64, .inl ve_210)), (bt, .inl (cI, 36, .inl vt_210)), (bx, .inl (cI, 48, .inl Z34))] ++ w) := hD
    refine lv_aload hx hb dL_shoots_211 (lv_at hl 4 rfl) ?_
    refine lv_iconst (v := (1 : Int32)) hx hb dL_shoots_213 (by decide) ?_
    refine lv_iload hx hb dL_shoots_214 (lv_at hl 7 rfl) ?_
    refine lv_iload hx hb dL_shoots_216 (lv_at hl 6 rfl) ?_
    refine lv_iload hx hb dL_shoots_218 (lv_at hl 7 rfl) ?_
    refine lv_isub hx hb dL_shoots_220 ?_
    refine lv_icmp_lt (tgt := 228) hx hb dL_shoots_221 (by decide) (fun hc35 => ?_) (fun hc35 => ?_)
    · replace hf := it hc35 hf
      refine lv_iconst (v := (1 : Int32)) hx hb dL_shoots_228 (by decide) ?_
      exact J229 y6_210 y7_210 (1 : Int32) (1 : Int32) vg_210 vu_210 ve_210 vt_210 Z34 og_210 w H locs hT hP hD hS ls (lv_sub hl [0, 1, 2, 3, 4, 5, 6] rfl) hf
    · replace hf := ie hc35 hf
      refine lv_iconst (v := (0 : Int32)) hx hb dL_shoots_224 (by decide) ?_
      refine lv_goto (tgt := 229) hx hb dL_shoots_225 (by decide) ?_
      exact J229 y6_210 y7_210 (0 : Int32) (1 : Int32) vg_210 vu_210 ve_210 vt_210 Z34 og_210 w H locs hT hP hD hS ls (lv_sub hl [0, 1, 2, 3, 4, 5, 6] rfl) hf
  have L149 : ∀ n149 : Nat, ∀ (y6_149 : Int32) (y7_149 : Int32) (y8_149 : Int32) (y9_149 : Int32) (y10_149 : Int32) (vg_149 : Nat → Int32) (vu_149 : Nat → Int32) (ve_149 : Nat → Int32) (vt_149 : Nat → Int32) (vx_149 : Nat → Int32) (og_149 : Sp) (w : va_W) (H : Heap) (locs : List Loc), OB cI cC t0 w0 og_149 w → va_P D vwCl ([(bg, .inl (cI, 15, .inl vg_149)), (bu, .inl (cI, 8, .inl vu_149)), (be, .inl (cI, 64, .inl ve_149)), (bt, .inl (cI, 36, .inl vt_149)), (bx, .inl (cI, 48, .inl vx_149))] ++ w) H → va_D AA ([(bg, .inl (cI, 15, .inl vg_149)), (bu, .inl (cI, 8, .inl vu_149)), (be, .inl (cI, 64, .inl ve_149)), (bt, .inl (cI, 36, .inl vt_149)), (bx, .inl (cI, 48, .inl vx_149))] ++ w) → va_S AA s.heap H locs → ∀ ls : Array Slot, lv_has ls 11 [(0, .ref t0), (1, .ref bg), (2, .ref bu), (3, .ref be), (4, .ref bt), (5, .ref bx), (6, .int y6_149), (7, .int y7_149), (8, .int y8_149), (9, .int y9_149), (10, .int y10_149)] → f_L_shoots_L149 y6_149 y7_149 y8_149 y9_149 n149 y10_149 vg_149 vu_149 ve_149 vt_149 vx_149 og_149 = some R → W p l e rmL_shoots s m args below meth c H locs 0 0 Q (F0 m 149 ls []) := by
    intro n149
    induction n149 with
    | zero => intro y6_149 y7_149 y8_149 y9_149 y10_149 vg_149 vu_149 ve_149 vt_149 vx_149 og_149 w H locs hT hP hD hS ls hl hf; rw [f_L_shoots_L149] at hf; cases hf
    | succ n149 IH149 =>
      intro y6_149 y7_149 y8_149 y9_149 y10_149 vg_149 vu_149 ve_149 vt_149 vx_149 og_149 w H locs hT hP hD hS ls hl hf
      rw [f_L_shoots_L149] at hf
      refine lv_iload hx hb dL_shoots_149 (lv_at hl 10 rfl) ?_
      refine lv_iconst (v := (2 : Int32)) hx hb dL_shoots_151 (by decide) ?_
      refine lv_icmp_le (tgt := 173) hx hb dL_shoots_152 (by decide) (fun hc20 => ?_) (fun hc20 => ?_)
      · replace hf := it hc20 hf
        refine lv_aload hx hb dL_shoots_173 (lv_at hl 4 rfl) ?_
        refine lv_iconst (v := (0 : Int32)) hx hb dL_shoots_175 (by decide) ?_
        refine lv_aload_n hx hb dL_shoots_176 rfl (lv_at hl 1 rfl) ?_
        refine lv_iconst (v := (5 : Int32)) hx hb dL_shoots_177 (by decide) ?_
        refine va_iald hx hb hK hP 0 0 rfl rfl (show ¬ ((5 : Int32) < 0 ∨ 15 ≤ (5 : Int32).toNatClampNeg) by decide) dL_shoots_178 ?_
        refine lv_topi (fun v21 ev21 => ?_)
        replace hf := lt_e ev21 hf
        refine x_iast hx hb hK hP hD hS 3 0 rfl rfl (show ¬ ((0 : Int32) < 0 ∨ 36 ≤ (0 : Int32).toNatClampNeg) by decide) dL_shoots_179 (fun Z22 H locs eZ22 hP hD hS => ?_)
        replace hf := lt_e eZ22 hf
        have hP : va_P D vwCl ([(bg, .inl (cI, 15, .inl vg_149)), (bu, .inl (cI, 8, .inl vu_149)), (be, .inl (cI, 64, .inl ve_149)), (bt, .inl (cI, 36, .inl Z22)), (bx, .inl (cI, 48, .inl vx_149))] ++ w) H := hP
        have hD : va_D AA ([(bg, .inl (cI, 15, .inl vg_149)), (bu, .inl (cI, 8, .inl vu_149)), (be, .inl (cI, 64, .inl ve_149)), (bt, .inl (cI, 36, .inl Z22)), (bx, .inl (cI, 48, .inl vx_149))] ++ w) := hD
        refine lv_aload hx hb dL_shoots_180 (lv_at hl 4 rfl) ?_
        refine lv_iconst (v := (1 : Int32)) hx hb dL_shoots_182 (by decide) ?_
        refine lv_iload hx hb dL_shoots_183 (lv_at hl 6 rfl) ?_
        refine x_iast hx hb hK hP hD hS 3 0 rfl rfl (show ¬ ((1 : Int32) < 0 ∨ 36 ≤ (1 : Int32).toNatClampNeg) by decide) dL_shoots_185 (fun Z23 H locs eZ23 hP hD hS => ?_)
        replace hf := lt_e eZ23 hf
        have hP : va_P D vwCl ([(bg, .inl (cI, 15, .inl vg_149)), (bu, .inl (cI, 8, .inl vu_149)), (be, .inl (cI, 64, .inl ve_149)), (bt, .inl (cI, 36, .inl Z23)), (bx, .inl (cI, 48, .inl vx_149))] ++ w) H := hP
        have hD : va_D AA ([(bg, .inl (cI, 15, .inl vg_149)), (bu, .inl (cI, 8, .inl vu_149)), (be, .inl (cI, 64, .inl ve_149)), (bt, .inl (cI, 36, .inl Z23)), (bx, .inl (cI, 48, .inl vx_149))] ++ w) := hD
        refine lv_aload hx hb dL_shoots_186 (lv_at hl 4 rfl) ?_
        refine lv_iconst (v := (2 : Int32)) hx hb dL_shoots_188 (by decide) ?_
        refine lv_iload hx hb dL_shoots_189 (lv_at hl 7 rfl) ?_
        refine x_iast hx hb hK hP hD hS 3 0 rfl rfl (show ¬ ((2 : Int32) < 0 ∨ 36 ≤ (2 : Int32).toNatClampNeg) by decide) dL_shoots_191 (fun Z24 H locs eZ24 hP hD hS => ?_)
        replace hf := lt_e eZ24 hf
        have hP : va_P D vwCl ([(bg, .inl (cI, 15, .inl vg_149)), (bu, .inl (cI, 8, .inl vu_149)), (be, .inl (cI, 64, .inl ve_149)), (bt, .inl (cI, 36, .inl Z24)), (bx, .inl (cI, 48, .inl vx_149))] ++ w) H := hP
        have hD : va_D AA ([(bg, .inl (cI, 15, .inl vg_149)), (bu, .inl (cI, 8, .inl vu_149)), (be, .inl (cI, 64, .inl ve_149)), (bt, .inl (cI, 36, .inl Z24)), (bx, .inl (cI, 48, .inl vx_149))] ++ w) := hD
        refine lv_aload hx hb dL_shoots_192 (lv_at hl 5 rfl) ?_
        refine lv_iconst (v := (0 : Int32)) hx hb dL_shoots_194 (by decide) ?_
        refine lv_iload hx hb dL_shoots_195 (lv_at hl 8 rfl) ?_
        refine lv_iload hx hb dL_shoots_197 (lv_at hl 7 rfl) ?_
        refine lv_iload hx hb dL_shoots_199 (lv_at hl 8 rfl) ?_
        refine lv_isub hx hb dL_shoots_201 ?_
        refine lv_icmp_lt (tgt := 209) hx hb dL_shoots_202 (by decide) (fun hc25 => ?_) (fun hc25 => ?_)
        · replace hf := it hc25 hf
          refine lv_iconst (v := (1 : Int32)) hx hb dL_shoots_209 (by decide) ?_
          exact J210 y6_149 y7_149 y9_149 (1 : Int32) (0 : Int32) vg_149 vu_149 ve_149 Z24 vx_149 og_149 w H locs hT hP hD hS ls (lv_sub hl [0, 1, 2, 3, 5, 6, 7, 9] rfl) hf
        · replace hf := ie hc25 hf
          refine lv_iconst (v := (0 : Int32)) hx hb dL_shoots_205 (by decide) ?_
          refine lv_goto (tgt := 210) hx hb dL_shoots_206 (by decide) ?_
          exact J210 y6_149 y7_149 y9_149 (0 : Int32) (0 : Int32) vg_149 vu_149 ve_149 Z24 vx_149 og_149 w H locs hT hP hD hS ls (lv_sub hl [0, 1, 2, 3, 5, 6, 7, 9] rfl) hf
      · replace hf := ie hc20 hf
        refine lv_aload hx hb dL_shoots_155 (lv_at hl 4 rfl) ?_
        refine lv_iload hx hb dL_shoots_157 (lv_at hl 10 rfl) ?_
        refine lv_aload hx hb dL_shoots_159 (lv_at hl 4 rfl) ?_
        refine lv_iload hx hb dL_shoots_161 (lv_at hl 10 rfl) ?_
        refine lv_iconst (v := (3 : Int32)) hx hb dL_shoots_163 (by decide) ?_
        refine lv_isub hx hb dL_shoots_164 ?_
        obtain ⟨hg26, hf⟩ := gd_s hf
        refine va_iald hx hb hK hP 3 0 rfl rfl hg26 dL_shoots_165 ?_
        refine lv_topi (fun v27 ev27 => ?_)
        replace hf := lt_e ev27 hf
        obtain ⟨hg28, hf⟩ := gd_s hf
        refine x_iast hx hb hK hP hD hS 3 0 rfl rfl hg28 dL_shoots_166 (fun Z29 H locs eZ29 hP hD hS => ?_)
        replace hf := lt_e eZ29 hf
        have hP : va_P D vwCl ([(bg, .inl (cI, 15, .inl vg_149)), (bu, .inl (cI, 8, .inl vu_149)), (be, .inl (cI, 64, .inl ve_149)), (bt, .inl (cI, 36, .inl Z29)), (bx, .inl (cI, 48, .inl vx_149))] ++ w) H := hP
        have hD : va_D AA ([(bg, .inl (cI, 15, .inl vg_149)), (bu, .inl (cI, 8, .inl vu_149)), (be, .inl (cI, 64, .inl ve_149)), (bt, .inl (cI, 36, .inl Z29)), (bx, .inl (cI, 48, .inl vx_149))] ++ w) := hD
        obtain ⟨v30, ev30⟩ : ∃ z : Int32, z = y10_149 + (-1 : Int32) := ⟨_, rfl⟩
        replace hf := lt_e ev30 hf
        refine lv_iinc (v := v30) (lv' := [(10, .int v30), (0, .ref t0), (1, .ref bg), (2, .ref bu), (3, .ref be), (4, .ref bt), (5, .ref bx), (6, .int y6_149), (7, .int y7_149), (8, .int y8_149), (9, .int y9_149)]) hx hb dL_shoots_167 hl (k := 10) rfl (by rw [ev30]; rfl) (by decide) rfl (fun ls hl => ?_)
        refine lv_goto (tgt := 149) hx hb dL_shoots_170 (by decide) ?_
        exact IH149 y6_149 y7_149 y8_149 y9_149 v30 vg_149 vu_149 ve_149 Z29 vx_149 og_149 w H locs hT hP hD hS ls (lv_sub hl [1, 2, 3, 4, 5, 6, 7, 8, 9, 10, 0] rfl) hf
  have L121 : ∀ n121 : Nat, ∀ (y6_121 : Int32) (y7_121 : Int32) (y8_121 : Int32) (y9_121 : Int32) (y10_121 : Int32) (vg_121 : Nat → Int32) (vu_121 : Nat → Int32) (ve_121 : Nat → Int32) (vt_121 : Nat → Int32) (vx_121 : Nat → Int32) (og_121 : Sp) (w : va_W) (H : Heap) (locs : List Loc), OB cI cC t0 w0 og_121 w → va_P D vwCl ([(bg, .inl (cI, 15, .inl vg_121)), (bu, .inl (cI, 8, .inl vu_121)), (be, .inl (cI, 64, .inl ve_121)), (bt, .inl (cI, 36, .inl vt_121)), (bx, .inl (cI, 48, .inl vx_121))] ++ w) H → va_D AA ([(bg, .inl (cI, 15, .inl vg_121)), (bu, .inl (cI, 8, .inl vu_121)), (be, .inl (cI, 64, .inl ve_121)), (bt, .inl (cI, 36, .inl vt_121)), (bx, .inl (cI, 48, .inl vx_121))] ++ w) → va_S AA s.heap H locs → ∀ ls : Array Slot, lv_has ls 11 [(0, .ref t0), (1, .ref bg), (2, .ref bu), (3, .ref be), (4, .ref bt), (5, .ref bx), (6, .int y6_121), (7, .int y7_121), (8, .int y8_121), (9, .int y9_121), (10, .int y10_121)] → f_L_shoots_L121 y6_121 y7_121 y8_121 y9_121 n121 y10_121 vg_121 vu_121 ve_121 vt_121 vx_121 og_121 = some R → W p l e rmL_shoots s m args below meth c H locs 0 0 Q (F0 m 121 ls []) := by
    intro n121
    induction n121 with
    | zero => intro y6_121 y7_121 y8_121 y9_121 y10_121 vg_121 vu_121 ve_121 vt_121 vx_121 og_121 w H locs hT hP hD hS ls hl hf; rw [f_L_shoots_L121] at hf; cases hf
    | succ n121 IH121 =>
      intro y6_121 y7_121 y8_121 y9_121 y10_121 vg_121 vu_121 ve_121 vt_121 vx_121 og_121 w H locs hT hP hD hS ls hl hf
      rw [f_L_shoots_L121] at hf
      refine lv_iload hx hb dL_shoots_121 (lv_at hl 10 rfl) ?_
      refine lv_iconst (v := (3 : Int32)) hx hb dL_shoots_123 (by decide) ?_
      refine lv_icmp_le (tgt := 145) hx hb dL_shoots_124 (by decide) (fun hc10 => ?_) (fun hc10 => ?_)
      · replace hf := it hc10 hf
        refine lv_bipush (v := (35 : Int32)) hx hb dL_shoots_145 (by decide) ?_
        refine lv_istore (lv' := [(10, .int (35 : Int32)), (0, .ref t0), (1, .ref bg), (2, .ref bu), (3, .ref be), (4, .ref bt), (5, .ref bx), (6, .int y6_121), (7, .int y7_121), (8, .int y8_121), (9, .int y9_121)]) hx hb dL_shoots_147 hl (by decide) rfl (fun ls hl => ?_)
        exact L149 FU y6_121 y7_121 y8_121 y9_121 (35 : Int32) vg_121 vu_121 ve_121 vt_121 vx_121 og_121 w H locs hT hP hD hS ls (lv_sub hl [1, 2, 3, 4, 5, 6, 7, 8, 9, 10, 0] rfl) hf
      · replace hf := ie hc10 hf
        refine lv_aload hx hb dL_shoots_127 (lv_at hl 5 rfl) ?_
        refine lv_iload hx hb dL_shoots_129 (lv_at hl 10 rfl) ?_
        refine lv_aload hx hb dL_shoots_131 (lv_at hl 5 rfl) ?_
        refine lv_iload hx hb dL_shoots_133 (lv_at hl 10 rfl) ?_
        refine lv_iconst (v := (4 : Int32)) hx hb dL_shoots_135 (by decide) ?_
        refine lv_isub hx hb dL_shoots_136 ?_
        obtain ⟨hg11, hf⟩ := gd_s hf
        refine va_iald hx hb hK hP 4 0 rfl rfl hg11 dL_shoots_137 ?_
        refine lv_topi (fun v12 ev12 => ?_)
        replace hf := lt_e ev12 hf
        obtain ⟨hg13, hf⟩ := gd_s hf
        refine x_iast hx hb hK hP hD hS 4 0 rfl rfl hg13 dL_shoots_138 (fun Z14 H locs eZ14 hP hD hS => ?_)
        replace hf := lt_e eZ14 hf
        have hP : va_P D vwCl ([(bg, .inl (cI, 15, .inl vg_121)), (bu, .inl (cI, 8, .inl vu_121)), (be, .inl (cI, 64, .inl ve_121)), (bt, .inl (cI, 36, .inl vt_121)), (bx, .inl (cI, 48, .inl Z14))] ++ w) H := hP
        have hD : va_D AA ([(bg, .inl (cI, 15, .inl vg_121)), (bu, .inl (cI, 8, .inl vu_121)), (be, .inl (cI, 64, .inl ve_121)), (bt, .inl (cI, 36, .inl vt_121)), (bx, .inl (cI, 48, .inl Z14))] ++ w) := hD
        obtain ⟨v15, ev15⟩ : ∃ z : Int32, z = y10_121 + (-1 : Int32) := ⟨_, rfl⟩
        replace hf := lt_e ev15 hf
        refine lv_iinc (v := v15) (lv' := [(10, .int v15), (0, .ref t0), (1, .ref bg), (2, .ref bu), (3, .ref be), (4, .ref bt), (5, .ref bx), (6, .int y6_121), (7, .int y7_121), (8, .int y8_121), (9, .int y9_121)]) hx hb dL_shoots_139 hl (k := 10) rfl (by rw [ev15]; rfl) (by decide) rfl (fun ls hl => ?_)
        refine lv_goto (tgt := 121) hx hb dL_shoots_142 (by decide) ?_
        exact IH121 y6_121 y7_121 y8_121 y9_121 v15 vg_121 vu_121 ve_121 vt_121 Z14 og_121 w H locs hT hP hD hS ls (lv_sub hl [1, 2, 3, 4, 5, 6, 7, 8, 9, 10, 0] rfl) hf
  have L43 : ∀ n43 : Nat, ∀ (y6_43 : Int32) (y7_43 : Int32) (y8_43 : Int32) (y9_43 : Int32) (y10_43 : Int32) (vg_43 : Nat → Int32) (vu_43 : Nat → Int32) (ve_43 : Nat → Int32) (vt_43 : Nat → Int32) (vx_43 : Nat → Int32) (og_43 : Sp) (w : va_W) (H : Heap) (locs : List Loc), OB cI cC t0 w0 og_43 w → va_P D vwCl ([(bg, .inl (cI, 15, .inl vg_43)), (bu, .inl (cI, 8, .inl vu_43)), (be, .inl (cI, 64, .inl ve_43)), (bt, .inl (cI, 36, .inl vt_43)), (bx, .inl (cI, 48, .inl vx_43))] ++ w) H → va_D AA ([(bg, .inl (cI, 15, .inl vg_43)), (bu, .inl (cI, 8, .inl vu_43)), (be, .inl (cI, 64, .inl ve_43)), (bt, .inl (cI, 36, .inl vt_43)), (bx, .inl (cI, 48, .inl vx_43))] ++ w) → va_S AA s.heap H locs → ∀ ls : Array Slot, lv_has ls 11 [(0, .ref t0), (1, .ref bg), (2, .ref bu), (3, .ref be), (4, .ref bt), (5, .ref bx), (6, .int y6_43), (7, .int y7_43), (8, .int y8_43), (9, .int y9_43), (10, .int y10_43)] → f_L_shoots_L43 y6_43 y7_43 n43 y8_43 y9_43 y10_43 vg_43 vu_43 ve_43 vt_43 vx_43 og_43 = some R → W p l e rmL_shoots s m args below meth c H locs 0 0 Q (F0 m 43 ls []) := by
    intro n43
    induction n43 with
    | zero => intro y6_43 y7_43 y8_43 y9_43 y10_43 vg_43 vu_43 ve_43 vt_43 vx_43 og_43 w H locs hT hP hD hS ls hl hf; rw [f_L_shoots_L43] at hf; cases hf
    | succ n43 IH43 =>
      intro y6_43 y7_43 y8_43 y9_43 y10_43 vg_43 vu_43 ve_43 vt_43 vx_43 og_43 w H locs hT hP hD hS ls hl hf
      have J108 : ∀ (y8_108 : Int32) (y10_108 : Int32) (z0_108 : Int32) (z1_108 : Int32) (vg_108 : Nat → Int32) (vu_108 : Nat → Int32) (ve_108 : Nat → Int32) (vt_108 : Nat → Int32) (vx_108 : Nat → Int32) (og_108 : Sp) (w : va_W) (H : Heap) (locs : List Loc), OB cI cC t0 w0 og_108 w → va_P D vwCl ([(bg, .inl (cI, 15, .inl vg_108)), (bu, .inl (cI, 8, .inl vu_108)), (be, .inl (cI, 64, .inl ve_108)), (bt, .inl (cI, 36, .inl vt_108)), (bx, .inl (cI, 48, .inl vx_108))] ++ w) H → va_D AA ([(bg, .inl (cI, 15, .inl vg_108)), (bu, .inl (cI, 8, .inl vu_108)), (be, .inl (cI, 64, .inl ve_108)), (bt, .inl (cI, 36, .inl vt_108)), (bx, .inl (cI, 48, .inl vx_108))] ++ w) → va_S AA s.heap H locs → ∀ ls : Array Slot, lv_has ls 11 [(0, .ref t0), (1, .ref bg), (2, .ref bu), (3, .ref be), (4, .ref bt), (5, .ref bx), (6, .int y6_43), (7, .int y7_43), (8, .int y8_108), (10, .int y10_108)] → f_L_shoots_J108 (f_L_shoots_L43 y6_43 y7_43 n43) y6_43 y7_43 y8_108 y10_108 z0_108 z1_108 vg_108 vu_108 ve_108 vt_108 vx_108 og_108 = some R → W p l e rmL_shoots s m args below meth c H locs 0 0 Q (F0 m 108 ls [.int z0_108, .int z1_108]) := by
        intro y8_108 y10_108 z0_108 z1_108 vg_108 vu_108 ve_108 vt_108 vx_108 og_108 w H locs hT hP hD hS ls hl hf
        rw [f_L_shoots_J108] at hf
        refine lv_iadd hx hb dL_shoots_108 ?_
        refine lv_topi (fun v31 ev31 => ?_)
        replace hf := lt_e ev31 hf
        refine lv_istore (lv' := [(9, .int v31), (0, .ref t0), (1, .ref bg), (2, .ref bu), (3, .ref be), (4, .ref bt), (5, .ref bx), (6, .int y6_43), (7, .int y7_43), (8, .int y8_108), (10, .int y10_108)]) hx hb dL_shoots_109 hl (by decide) rfl (fun ls hl => ?_)
        obtain ⟨v32, ev32⟩ : ∃ z : Int32, z = y10_108 + (1 : Int32) := ⟨_, rfl⟩
        replace hf := lt_e ev32 hf
        refine lv_iinc (v := v32) (lv' := [(10, .int v32), (9, .int v31), (0, .ref t0), (1, .ref bg), (2, .ref bu), (3, .ref be), (4, .ref bt), (5, .ref bx), (6, .int y6_43), (7, .int y7_43), (8, .int y8_108)]) hx hb dL_shoots_111 hl (k := 10) rfl (by rw [ev32]; rfl) (by decide) rfl (fun ls hl => ?_)
        refine lv_goto (tgt := 43) hx hb dL_shoots_114 (by decide) ?_
        exact IH43 y6_43 y7_43 y8_108 v31 v32 vg_108 vu_108 ve_108 vt_108 vx_108 og_108 w H locs hT hP hD hS ls (lv_sub hl [2, 3, 4, 5, 6, 7, 8, 9, 10, 1, 0] rfl) hf
      have J78 : ∀ (y9_78 : Int32) (y10_78 : Int32) (z0_78 : Int32) (z1_78 : Int32) (vg_78 : Nat → Int32) (vu_78 : Nat → Int32) (ve_78 : Nat → Int32) (vt_78 : Nat → Int32) (vx_78 : Nat → Int32) (og_78 : Sp) (w : va_W) (H : Heap) (locs : List Loc), OB cI cC t0 w0 og_78 w → va_P D vwCl ([(bg, .inl (cI, 15, .inl vg_78)), (bu, .inl (cI, 8, .inl vu_78)), (be, .inl (cI, 64, .inl ve_78)), (bt, .inl (cI, 36, .inl vt_78)), (bx, .inl (cI, 48, .inl vx_78))] ++ w) H → va_D AA ([(bg, .inl (cI, 15, .inl vg_78)), (bu, .inl (cI, 8, .inl vu_78)), (be, .inl (cI, 64, .inl ve_78)), (bt, .inl (cI, 36, .inl vt_78)), (bx, .inl (cI, 48, .inl vx_78))] ++ w) → va_S AA s.heap H locs → ∀ ls : Array Slot, lv_has ls 11 [(0, .ref t0), (1, .ref bg), (2, .ref bu), (3, .ref be), (4, .ref bt), (5, .ref bx), (6, .int y6_43), (7, .int y7_43), (9, .int y9_78), (10, .int y10_78)] → f_L_shoots_J78 (f_L_shoots_L43 y6_43 y7_43 n43) y6_43 y7_43 y9_78 y10_78 z0_78 z1_78 vg_78 vu_78 ve_78 vt_78 vx_78 og_78 = some R → W p l e rmL_shoots s m args below meth c H locs 0 0 Q (F0 m 78 ls [.int z0_78, .int z1_78]) := by
        intro y9_78 y10_78 z0_78 z1_78 vg_78 vu_78 ve_78 vt_78 vx_78 og_78 w H locs hT hP hD hS ls hl hf
        rw [f_L_shoots_J78] at hf
        refine lv_iadd hx hb dL_shoots_78 ?_
        refine lv_topi (fun v16 ev16 => ?_)
        replace hf := lt_e ev16 hf
        refine lv_istore (lv' := [(8, .int v16), (0, .ref t0), (1, .ref bg), (2, .ref bu), (3, .ref be), (4, .ref bt), (5, .ref bx), (6, .int y6_43), (7, .int y7_43), (9, .int y9_78), (10, .int y10_78)]) hx hb dL_shoots_79 hl (by decide) rfl (fun ls hl => ?_)
        refine lv_iload hx hb dL_shoots_81 (lv_at hl 9 rfl) ?_
        refine lv_aload_n hx hb dL_shoots_83 rfl (lv_at hl 4 rfl) ?_
        refine lv_iload hx hb dL_shoots_84 (lv_at hl 10 rfl) ?_
        obtain ⟨hg17, hf⟩ := gd_s hf
        refine va_iald hx hb hK hP 2 0 rfl rfl hg17 dL_shoots_86 ?_
        refine lv_sipush (v := (1000 : Int32)) hx hb dL_shoots_87 (by decide) ?_
        refine lv_idiv hx hb dL_shoots_90 (by decide) ?_
        refine lv_iconst (v := (2 : Int32)) hx hb dL_shoots_91 (by decide) ?_
        refine lv_irem hx hb dL_shoots_92 (by decide) ?_
        refine lv_if_ne (tgt := 107) hx hb dL_shoots_93 (by decide) (fun hc18 => ?_) (fun hc18 => ?_)
        · replace hf := ie hc18 hf
          refine lv_iconst (v := (0 : Int32)) hx hb dL_shoots_107 (by decide) ?_
          exact J108 v16 y10_78 (0 : Int32) y9_78 vg_78 vu_78 ve_78 vt_78 vx_78 og_78 w H locs hT hP hD hS ls (lv_sub hl [1, 2, 3, 4, 5, 6, 7, 8, 0, 10] rfl) hf
        · replace hf := it hc18 hf
          refine lv_aload_n hx hb dL_shoots_96 rfl (lv_at hl 4 rfl) ?_
          refine lv_iload hx hb dL_shoots_97 (lv_at hl 10 rfl) ?_
          obtain ⟨hg19, hf⟩ := gd_s hf
          refine va_iald hx hb hK hP 2 0 rfl rfl hg19 dL_shoots_99 ?_
          refine lv_sipush (v := (1000 : Int32)) hx hb dL_shoots_100 (by decide) ?_
          refine lv_irem hx hb dL_shoots_103 (by decide) ?_
          refine lv_goto (tgt := 108) hx hb dL_shoots_104 (by decide) ?_
          exact J108 v16 y10_78 ((ve_78 y10_78.toNatClampNeg) - (ve_78 y10_78.toNatClampNeg) / (1000 : Int32) * (1000 : Int32)) y9_78 vg_78 vu_78 ve_78 vt_78 vx_78 og_78 w H locs hT hP hD hS ls (lv_sub hl [1, 2, 3, 4, 5, 6, 7, 8, 0, 10] rfl) hf
      rw [f_L_shoots_L43] at hf
      refine lv_iload hx hb dL_shoots_43 (lv_at hl 10 rfl) ?_
      refine lv_aload_n hx hb dL_shoots_45 rfl (lv_at hl 3 rfl) ?_
      refine lv_iconst (v := (0 : Int32)) hx hb dL_shoots_46 (by decide) ?_
      refine va_iald hx hb hK hP 2 0 rfl rfl (show ¬ ((0 : Int32) < 0 ∨ 64 ≤ (0 : Int32).toNatClampNeg) by decide) dL_shoots_47 ?_
      refine lv_icmp_gt (tgt := 117) hx hb dL_shoots_48 (by decide) (fun hc6 => ?_) (fun hc6 => ?_)
      · replace hf := it hc6 hf
        refine lv_bipush (v := (47 : Int32)) hx hb dL_shoots_117 (by decide) ?_
        refine lv_istore (lv' := [(10, .int (47 : Int32)), (0, .ref t0), (1, .ref bg), (2, .ref bu), (3, .ref be), (4, .ref bt), (5, .ref bx), (6, .int y6_43), (7, .int y7_43), (8, .int y8_43), (9, .int y9_43)]) hx hb dL_shoots_119 hl (by decide) rfl (fun ls hl => ?_)
        exact L121 FU y6_43 y7_43 y8_43 y9_43 (47 : Int32) vg_43 vu_43 ve_43 vt_43 vx_43 og_43 w H locs hT hP hD hS ls (lv_sub hl [1, 2, 3, 4, 5, 6, 7, 8, 9, 10, 0] rfl) hf
      · replace hf := ie hc6 hf
        refine lv_iload hx hb dL_shoots_51 (lv_at hl 8 rfl) ?_
        refine lv_aload_n hx hb dL_shoots_53 rfl (lv_at hl 3 rfl) ?_
        refine lv_iload hx hb dL_shoots_54 (lv_at hl 10 rfl) ?_
        obtain ⟨hg7, hf⟩ := gd_s hf
        refine va_iald hx hb hK hP 2 0 rfl rfl hg7 dL_shoots_56 ?_
        refine lv_sipush (v := (2000 : Int32)) hx hb dL_shoots_57 (by decide) ?_
        refine lv_idiv hx hb dL_shoots_60 (by decide) ?_
        refine lv_iconst (v := (2 : Int32)) hx hb dL_shoots_61 (by decide) ?_
        refine lv_irem hx hb dL_shoots_62 (by decide) ?_
        refine lv_if_ne (tgt := 77) hx hb dL_shoots_63 (by decide) (fun hc8 => ?_) (fun hc8 => ?_)
        · replace hf := ie hc8 hf
          refine lv_iconst (v := (0 : Int32)) hx hb dL_shoots_77 (by decide) ?_
          exact J78 y9_43 y10_43 (0 : Int32) y8_43 vg_43 vu_43 ve_43 vt_43 vx_43 og_43 w H locs hT hP hD hS ls (lv_sub hl [0, 1, 2, 3, 4, 5, 6, 7, 9, 10] rfl) hf
        · replace hf := it hc8 hf
          refine lv_aload_n hx hb dL_shoots_66 rfl (lv_at hl 3 rfl) ?_
          refine lv_iload hx hb dL_shoots_67 (lv_at hl 10 rfl) ?_
          obtain ⟨hg9, hf⟩ := gd_s hf
          refine va_iald hx hb hK hP 2 0 rfl rfl hg9 dL_shoots_69 ?_
          refine lv_sipush (v := (1000 : Int32)) hx hb dL_shoots_70 (by decide) ?_
          refine lv_irem hx hb dL_shoots_73 (by decide) ?_
          refine lv_goto (tgt := 78) hx hb dL_shoots_74 (by decide) ?_
          exact J78 y9_43 y10_43 ((ve_43 y10_43.toNatClampNeg) - (ve_43 y10_43.toNatClampNeg) / (1000 : Int32) * (1000 : Int32)) y8_43 vg_43 vu_43 ve_43 vt_43 vx_43 og_43 w H locs hT hP hD hS ls (lv_sub hl [0, 1, 2, 3, 4, 5, 6, 7, 9, 10] rfl) hf
  delta f_L_shoots at hf
  obtain ⟨H, hH⟩ : ∃ z : Heap, z = s.heap := ⟨_, rfl⟩
  obtain ⟨locs, hL⟩ : ∃ z : List Loc, z = [] := ⟨_, rfl⟩
  replace hP := hH ▸ hP
  replace hS : va_S AA s.heap H locs := by rw [hH, hL]; exact hS
  suffices hgoal : W p l e rmL_shoots s m args below meth c H locs 0 0 Q (F0 m 0 ls []) by rw [hH, hL] at hgoal; exact hgoal
  clear hH hL
  refine lv_aload_n hx hb dL_shoots_0 rfl (lv_at hl 3 rfl) ?_
  refine lv_iconst (v := (0 : Int32)) hx hb dL_shoots_1 (by decide) ?_
  refine va_iald hx hb hK hP 2 0 rfl rfl (show ¬ ((0 : Int32) < 0 ∨ 64 ≤ (0 : Int32).toNatClampNeg) by decide) dL_shoots_2 ?_
  refine lv_if_ne (tgt := 21) hx hb dL_shoots_3 (by decide) (fun hc1 => ?_) (fun hc1 => ?_)
  · replace hf := ie hc1 hf
    refine lv_aload_n hx hb dL_shoots_21 rfl (lv_at hl 1 rfl) ?_
    refine lv_aload_n hx hb dL_shoots_22 rfl (lv_at hl 3 rfl) ?_
    obtain ⟨q2, hq2, hf⟩ := ob hf
    refine cl_RSL (X0 := [(bg, .inl (cI, 15, .inl vg)), (bu, .inl (cI, 8, .inl vu)), (be, .inl (cI, 64, .inl ve)), (bt, .inl (cI, 36, .inl vt)), (bx, .inl (cI, 48, .inl vx))]) (As := [.ref bg, .ref be]) (rest := []) hF hP hD (c_L_brew bg be vg ve q2 hq2) (va_cwS 2 hts gL_shoots_L_brew rfl rfl rfl (by decide +kernel) ⟨(Nat.le_of_ble_eq_true rfl), (Nat.le_of_ble_eq_true rfl)⟩) [0, 2] rfl (by decide +kernel) rfl rfl hl.1 (Nat.le_of_ble_eq_true rfl) dL_shoots_23 ⟨Nat.zero_le _, Nat.zero_le _⟩ ?_
    refine lv_istore (lv' := [(6, .int q2), (0, .ref t0), (1, .ref bg), (2, .ref bu), (3, .ref be), (4, .ref bt), (5, .ref bx)]) hx hb dL_shoots_26 hl (by decide) rfl (fun ls hl => ?_)
    refine lv_aload_n hx hb dL_shoots_28 rfl (lv_at hl 4 rfl) ?_
    obtain ⟨q3, hq3, hf⟩ := ob hf
    refine cl_RSL (X0 := [(bg, .inl (cI, 15, .inl vg)), (bu, .inl (cI, 8, .inl vu)), (be, .inl (cI, 64, .inl ve)), (bt, .inl (cI, 36, .inl vt)), (bx, .inl (cI, 48, .inl vx))]) (As := [.ref be]) (rest := []) hF hP hD (c_L_amounts be ve q3 hq3) (va_cwS 1 hts gL_shoots_L_amounts rfl rfl rfl (by decide +kernel) ⟨(Nat.le_of_ble_eq_true rfl), (Nat.le_of_ble_eq_true rfl)⟩) [2] rfl (by decide +kernel) rfl rfl hl.1 (Nat.le_of_ble_eq_true rfl) dL_shoots_29 ⟨Nat.zero_le _, Nat.zero_le _⟩ ?_
    refine lv_istore (lv' := [(7, .int q3), (6, .int q2), (0, .ref t0), (1, .ref bg), (2, .ref bu), (3, .ref be), (4, .ref bt), (5, .ref bx)]) hx hb dL_shoots_32 hl (by decide) rfl (fun ls hl => ?_)
    refine lv_iconst (v := (0 : Int32)) hx hb dL_shoots_34 (by decide) ?_
    refine lv_istore (lv' := [(8, .int (0 : Int32)), (7, .int q3), (6, .int q2), (0, .ref t0), (1, .ref bg), (2, .ref bu), (3, .ref be), (4, .ref bt), (5, .ref bx)]) hx hb dL_shoots_35 hl (by decide) rfl (fun ls hl => ?_)
    refine lv_iconst (v := (0 : Int32)) hx hb dL_shoots_37 (by decide) ?_
    refine lv_istore (lv' := [(9, .int (0 : Int32)), (8, .int (0 : Int32)), (7, .int q3), (6, .int q2), (0, .ref t0), (1, .ref bg), (2, .ref bu), (3, .ref be), (4, .ref bt), (5, .ref bx)]) hx hb dL_shoots_38 hl (by decide) rfl (fun ls hl => ?_)
    refine lv_iconst (v := (1 : Int32)) hx hb dL_shoots_40 (by decide) ?_
    refine lv_istore (lv' := [(10, .int (1 : Int32)), (9, .int (0 : Int32)), (8, .int (0 : Int32)), (7, .int q3), (6, .int q2), (0, .ref t0), (1, .ref bg), (2, .ref bu), (3, .ref be), (4, .ref bt), (5, .ref bx)]) hx hb dL_shoots_41 hl (by decide) rfl (fun ls hl => ?_)
    exact L43 FU q2 q3 (0 : Int32) (0 : Int32) (1 : Int32) vg vu ve vt vx og w H locs hT hP hD hS ls (lv_sub hl [5, 6, 7, 8, 9, 10, 4, 3, 2, 1, 0] rfl) hf
  · replace hf := it hc1 hf
    refine lv_aload_n hx hb dL_shoots_6 rfl (lv_at hl 0 rfl) ?_
    obtain ⟨q4, hq4, hf⟩ := ob hf
    refine cl_WO (As := []) (rest := []) hF hP hD hS (oo_shot hT  q4 hq4) (cwV 0 hts gL_shoots_X7_shot rfl rfl rfl (by decide +kernel) ⟨(Nat.le_of_ble_eq_true rfl), (Nat.le_of_ble_eq_true rfl)⟩) rfl rfl hl.1 (Nat.le_of_ble_eq_true rfl) dL_shoots_7 ⟨Nat.zero_le _, Nat.zero_le _⟩ (fun w H locs hT hP hD hS => ?_)
    refine lv_ldc hx hb hown k1_ dL_shoots_10 ?_
    refine lv_icmp_ne (tgt := 19) hx hb dL_shoots_12 (by decide) (fun hc5 => ?_) (fun hc5 => ?_)
    · replace hf := ie hc5 hf
      refine lv_iconst (v := (0 : Int32)) hx hb dL_shoots_19 (by decide) ?_
      clear L43 L121 L149 J210 J229 J263 J302 J319 J345
      obtain rfl := Option.some.inj hf
      exact ret 20 ls _ w H locs dL_shoots_20 (by decide) rfl hT hP hS
    · replace hf := it hc5 hf
      refine lv_iconst (v := (1 : Int32)) hx hb dL_shoots_15 (by decide) ?_
      refine lv_goto (tgt := 20) hx hb dL_shoots_16 (by decide) ?_
      clear L43 L121 L149 J210 J229 J263 J302 J319 J345
      obtain rfl := Option.some.inj hf
      exact ret 20 ls _ w H locs dL_shoots_20 (by decide) rfl hT hP hS
end
