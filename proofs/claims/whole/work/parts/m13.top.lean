section
variable {l : Launch} {D : va_G} {cI cC : ClassId}

def w_hist (cI cC : ClassId) (h0 : Nat) (yl : Nat) (ys : Nat) (yt : Nat) (yo : Nat) (yn : Int32) : va_W := [(h0, .inr (2, [.ref yl, .ref ys, .ref yt, .ref yo, .int yn]))]
def w_topq (cI cC : ClassId) (t0 : Nat) (t1 : Nat) (t2 : Nat) (a : Nat → Nat) (nw : Nat) (sp : Nat) (pA : Nat → Int32) (pM : Nat → Int32) (pn : Int32) (pt : Int32) (d0 : Int32) (w0 : Int32) (g0 : Int32) (k0 : Int32) (d1 : Int32) (w1 : Int32) (g1 : Int32) (k1 : Int32) (qA : Nat → Int32) (qM : Nat → Int32) (qn : Int32) (qt : Int32) (uA : Nat → Int32) (uM : Nat → Int32) (un : Int32) (ut : Int32) (sF : Nat → Int32) (sk : Int32) (sm : Int32) (st : Nat → Int32) (se : Int32) (fi : Int32) (gr : Int32) (br : Int32) (pu : Int32) (nr : Int32) : va_W := [(t0, .inr (7, [.ref t1, .ref t2, .ref nw, .ref sp])), (nw, .inr (1, [.ref (a 1), .ref (a 5), .ref (a 6), .ref (a 7), .ref (a 10), .ref (a 13), .ref (a 15), .int se, .int fi, .int gr, .int br, .int pu, .int nr])), ((a 1), .inr (3, [.ref (a 2)])), ((a 2), .inr (5, [.ref (a 3), .ref (a 4), .int pn, .int pt])), ((a 3), .inl (cI, 6, .inl pA)), ((a 4), .inl (cI, 6, .inl pM)), ((a 5), .inr (0, [.int d0, .int w0, .int g0, .int k0])), ((a 6), .inr (0, [.int d1, .int w1, .int g1, .int k1])), ((a 7), .inr (5, [.ref (a 8), .ref (a 9), .int qn, .int qt])), ((a 8), .inl (cI, 106, .inl qA)), ((a 9), .inl (cI, 106, .inl qM)), ((a 10), .inr (5, [.ref (a 11), .ref (a 12), .int un, .int ut])), ((a 11), .inl (cI, 400, .inl uA)), ((a 12), .inl (cI, 400, .inl uM)), ((a 13), .inr (6, [.ref (a 14), .int sk, .int sm])), ((a 14), .inl (cI, 96, .inl sF)), ((a 15), .inl (cI, 6, .inl st))]
def w_tophoq (cI cC : ClassId) (t0 : Nat) (t1 : Nat) (t2 : Nat) (t3 : Nat) (a : Nat → Nat) (nw : Nat) (sp : Nat) (yl : Nat) (ys : Nat) (yt : Nat) (yo : Nat) (yn : Int32) (sg : Nat → Int32) (oL : Int32) (oA : Int32) (oC : Int32) (oF : Int32) (oS : Int32) (oD : Int32) (oP : Int32) (oR : Int32) (oU : Int32) (pA : Nat → Int32) (pM : Nat → Int32) (pn : Int32) (pt : Int32) (d0 : Int32) (w0 : Int32) (g0 : Int32) (k0 : Int32) (d1 : Int32) (w1 : Int32) (g1 : Int32) (k1 : Int32) (qA : Nat → Int32) (qM : Nat → Int32) (qn : Int32) (qt : Int32) (uA : Nat → Int32) (uM : Nat → Int32) (un : Int32) (ut : Int32) (sF : Nat → Int32) (sk : Int32) (sm : Int32) (st : Nat → Int32) (se : Int32) (fi : Int32) (gr : Int32) (br : Int32) (pu : Int32) (nr : Int32) : va_W := [(t0, .inr (7, [.ref t1, .ref t2, .ref nw, .ref sp])), (t1, .inr (2, [.ref yl, .ref ys, .ref yt, .ref yo, .int yn])), (t2, .inr (4, [.ref t3, .int oL, .int oA, .int oC, .int oF, .int oS, .int oD, .int oP, .int oR, .int oU])), (t3, .inl (cC, 60, .inl sg)), (nw, .inr (1, [.ref (a 1), .ref (a 5), .ref (a 6), .ref (a 7), .ref (a 10), .ref (a 13), .ref (a 15), .int se, .int fi, .int gr, .int br, .int pu, .int nr])), ((a 1), .inr (3, [.ref (a 2)])), ((a 2), .inr (5, [.ref (a 3), .ref (a 4), .int pn, .int pt])), ((a 3), .inl (cI, 6, .inl pA)), ((a 4), .inl (cI, 6, .inl pM)), ((a 5), .inr (0, [.int d0, .int w0, .int g0, .int k0])), ((a 6), .inr (0, [.int d1, .int w1, .int g1, .int k1])), ((a 7), .inr (5, [.ref (a 8), .ref (a 9), .int qn, .int qt])), ((a 8), .inl (cI, 106, .inl qA)), ((a 9), .inl (cI, 106, .inl qM)), ((a 10), .inr (5, [.ref (a 11), .ref (a 12), .int un, .int ut])), ((a 11), .inl (cI, 400, .inl uA)), ((a 12), .inl (cI, 400, .inl uM)), ((a 13), .inr (6, [.ref (a 14), .int sk, .int sm])), ((a 14), .inl (cI, 96, .inl sF)), ((a 15), .inl (cI, 6, .inl st))]
def w_toph (cI cC : ClassId) (t0 : Nat) (t1 : Nat) (t2 : Nat) (nw : Nat) (sp : Nat) (yl : Nat) (ys : Nat) (yt : Nat) (yo : Nat) (yn : Int32) : va_W := [(t0, .inr (7, [.ref t1, .ref t2, .ref nw, .ref sp])), (t1, .inr (2, [.ref yl, .ref ys, .ref yt, .ref yo, .int yn]))]
def w_topo (cI cC : ClassId) (t0 : Nat) (t1 : Nat) (t2 : Nat) (t3 : Nat) (nw : Nat) (sp : Nat) (sg : Nat → Int32) (oL : Int32) (oA : Int32) (oC : Int32) (oF : Int32) (oS : Int32) (oD : Int32) (oP : Int32) (oR : Int32) (oU : Int32) : va_W := [(t0, .inr (7, [.ref t1, .ref t2, .ref nw, .ref sp])), (t2, .inr (4, [.ref t3, .int oL, .int oA, .int oC, .int oF, .int oS, .int oD, .int oP, .int oR, .int oU])), (t3, .inl (cC, 60, .inl sg))]
abbrev rmX2_add : Room := { frames := 1, cells := 0, slots := 0, locals := 21 }
set_option maxHeartbeats 4000000 in
set_option maxRecDepth 100000 in
theorem c_X2_add (h0 : Nat) (x1 : Nat) (yl : Nat) (ys : Nat) (yt : Nat) (yo : Nat) (yn : Int32) (R : Nat × Nat × Nat × Nat × Nat × Int32) (hf : f_X2_add x1 yl ys yt yo yn = some R) : WrA l yX2_add wsX2_add rmX2_add D cI cC (w_hist cI cC h0 yl ys yt yo yn) (w_hist cI cC h0 R.2.1 R.2.2.1 R.2.2.2.1 R.2.2.2.2.1 R.2.2.2.2.2) [.ref h0, .ref x1] R.1 := by
  refine en_WA (C := "DriftGrinders$Grinder") (cc := cX2_add) (n := 3) rfl (by decide) rfl (Nat.le_of_ble_eq_true rfl) ?_
  intro p e s m args below meth c Q AA ls hx hb hml hown hts hK hN hP hD hS hl ret
  have hown : s.vm.findClass RX2 = some m.cls := hown
  have hF : FX p m c cX2_add 3 s args wsX2_add RX2 D cI cC := ⟨⟨hx, hb, hml, hown, hts⟩, hK, hN⟩
  have hl : lv_has ls 3 [(0, .ref h0), (1, .ref x1)] := hl
  have k1_ := hts (.fieldLink RX2 24 "DriftGrinders$History" "oldest" "LDriftGrinders$Grinder;") (List.mem_of_getElem? (i := 1) rfl)
  have k2_ := hts (.fieldLink RX2 21 "DriftGrinders$History" "third" "LDriftGrinders$Grinder;") (List.mem_of_getElem? (i := 2) rfl)
  have k3_ := hts (.fieldLink RX2 18 "DriftGrinders$History" "second" "LDriftGrinders$Grinder;") (List.mem_of_getElem? (i := 3) rfl)
  have k4_ := hts (.fieldLink RX2 12 "DriftGrinders$History" "latest" "LDriftGrinders$Grinder;") (List.mem_of_getElem? (i := 4) rfl)
  have k5_ := hts (.fieldLink RX2 27 "DriftGrinders$History" "states" "I") (List.mem_of_getElem? (i := 5) rfl)
  have k6_ := hts (.methodLink RX2 31 Lib.Math.min.name) (List.mem_of_getElem? (i := 6) rfl)
  have k7_ := hts (.static Lib.Math.min.name) (List.mem_of_getElem? (i := 7) rfl)
  have k8_ := hts (.initialized "java/lang/Math") (List.mem_of_getElem? (i := 8) rfl)
  have k9_ := hts (.code Lib.Math.min.name Lib.Math.min.code 2 (some .int)) (List.mem_of_getElem? (i := 9) rfl)
  have n2_ : ∀ w ∈ wsX20, w ∈ wsX2_add := fun _ h => List.mem_cons_of_mem _ (List.mem_append_right _ h)
  rw [f_X2_add] at hf
  obtain ⟨H, hH⟩ : ∃ z : Heap, z = s.heap := ⟨_, rfl⟩
  obtain ⟨locs, hL⟩ : ∃ z : List Loc, z = [] := ⟨_, rfl⟩
  replace hP := hH ▸ hP
  replace hS : va_S AA s.heap H locs := by rw [hH, hL]; exact hS
  suffices hgoal : W p l e rmX2_add s m args below meth c H locs 0 0 Q (F0 m 0 ls []) by rw [hH, hL] at hgoal; exact hgoal
  clear hH hL
  refine lv_aload_n hx hb dX2_add_0 rfl (lv_at hl 0 rfl) ?_
  refine va_get hx hb hts n2_ hown hK hP 0 rfl rfl 3 (Nat.le_of_ble_eq_true rfl) k1_ (fun _ h => h) rfl dX2_add_1 ?_
  refine lv_astore_n (lv' := [(2, .ref yo), (0, .ref h0), (1, .ref x1)]) hx hb dX2_add_4 rfl hl (by decide) rfl (fun ls hl => ?_)
  refine lv_aload_n hx hb dX2_add_5 rfl (lv_at hl 1 rfl) ?_
  refine lv_aload_n hx hb dX2_add_6 rfl (lv_at hl 1 rfl) ?_
  refine va_get hx hb hts n2_ hown hK hP 0 rfl rfl 2 (Nat.le_of_ble_eq_true rfl) k2_ (fun _ h => h) rfl dX2_add_7 ?_
  refine va_put hx hb hts n2_ tyX2 tyX2_ok nmX2 hown hK hP hD hS 0 rfl rfl 3 (Nat.le_of_ble_eq_true rfl) k1_ (fun _ h => h) rfl (v := .ref yt) (tyX2_ok 3 (Nat.le_of_ble_eq_true rfl)) rfl rfl (Nat.le_of_ble_eq_true rfl) dX2_add_10 (fun H locs hP hD hS => ?_)
  have hP : va_P D vwCl (w_hist cI cC h0 yl ys yt yt yn) H := hP
  have hD : va_D AA (w_hist cI cC h0 yl ys yt yt yn) := hD
  refine lv_aload_n hx hb dX2_add_13 rfl (lv_at hl 1 rfl) ?_
  refine lv_aload_n hx hb dX2_add_14 rfl (lv_at hl 1 rfl) ?_
  refine va_get hx hb hts n2_ hown hK hP 0 rfl rfl 1 (Nat.le_of_ble_eq_true rfl) k3_ (fun _ h => h) rfl dX2_add_15 ?_
  refine va_put hx hb hts n2_ tyX2 tyX2_ok nmX2 hown hK hP hD hS 0 rfl rfl 2 (Nat.le_of_ble_eq_true rfl) k2_ (fun _ h => h) rfl (v := .ref ys) (tyX2_ok 2 (Nat.le_of_ble_eq_true rfl)) rfl rfl (Nat.le_of_ble_eq_true rfl) dX2_add_18 (fun H locs hP hD hS => ?_)
  have hP : va_P D vwCl (w_hist cI cC h0 yl ys ys yt yn) H := hP
  have hD : va_D AA (w_hist cI cC h0 yl ys ys yt yn) := hD
  refine lv_aload_n hx hb dX2_add_21 rfl (lv_at hl 1 rfl) ?_
  refine lv_aload_n hx hb dX2_add_22 rfl (lv_at hl 1 rfl) ?_
  refine va_get hx hb hts n2_ hown hK hP 0 rfl rfl 0 (Nat.le_of_ble_eq_true rfl) k4_ (fun _ h => h) rfl dX2_add_23 ?_
  refine va_put hx hb hts n2_ tyX2 tyX2_ok nmX2 hown hK hP hD hS 0 rfl rfl 1 (Nat.le_of_ble_eq_true rfl) k3_ (fun _ h => h) rfl (v := .ref yl) (tyX2_ok 1 (Nat.le_of_ble_eq_true rfl)) rfl rfl (Nat.le_of_ble_eq_true rfl) dX2_add_26 (fun H locs hP hD hS => ?_)
  have hP : va_P D vwCl (w_hist cI cC h0 yl yl ys yt yn) H := hP
  have hD : va_D AA (w_hist cI cC h0 yl yl ys yt yn) := hD
  refine lv_aload_n hx hb dX2_add_29 rfl (lv_at hl 1 rfl) ?_
  refine lv_aload_n hx hb dX2_add_30 rfl (lv_at hl 2 rfl) ?_
  refine va_put hx hb hts n2_ tyX2 tyX2_ok nmX2 hown hK hP hD hS 0 rfl rfl 0 (Nat.le_of_ble_eq_true rfl) k4_ (fun _ h => h) rfl (v := .ref x1) (tyX2_ok 0 (Nat.le_of_ble_eq_true rfl)) rfl rfl (Nat.le_of_ble_eq_true rfl) dX2_add_31 (fun H locs hP hD hS => ?_)
  have hP : va_P D vwCl (w_hist cI cC h0 x1 yl ys yt yn) H := hP
  have hD : va_D AA (w_hist cI cC h0 x1 yl ys yt yn) := hD
  refine lv_aload_n hx hb dX2_add_34 rfl (lv_at hl 1 rfl) ?_
  refine lv_iconst (v := (4 : Int32)) hx hb dX2_add_35 (by decide) ?_
  refine lv_aload_n hx hb dX2_add_36 rfl (lv_at hl 1 rfl) ?_
  refine va_get hx hb hts n2_ hown hK hP 0 rfl rfl 4 (Nat.le_of_ble_eq_true rfl) k5_ (fun _ h => h) rfl dX2_add_37 ?_
  refine lv_iconst (v := (1 : Int32)) hx hb dX2_add_40 (by decide) ?_
  refine lv_iadd hx hb dX2_add_41 ?_
  refine va_mmin hx hb (hml.trans hl.1.symm) hown k6_ k7_ k8_ k9_ (Nat.le_of_ble_eq_true rfl) (Nat.le_of_ble_eq_true rfl) (Nat.zero_le _) (Nat.zero_le _) dX2_add_42 ?_
  refine lv_topi (fun v1 ev1 => ?_)
  replace hf := lt_e ev1 hf
  refine va_put hx hb hts n2_ tyX2 tyX2_ok nmX2 hown hK hP hD hS 0 rfl rfl 4 (Nat.le_of_ble_eq_true rfl) k5_ (fun _ h => h) rfl (v := .int v1) (tyX2_ok 4 (Nat.le_of_ble_eq_true rfl)) rfl rfl (Nat.le_of_ble_eq_true rfl) dX2_add_45 (fun H locs hP hD hS => ?_)
  have hP : va_P D vwCl (w_hist cI cC h0 x1 yl ys yt v1) H := hP
  have hD : va_D AA (w_hist cI cC h0 x1 yl ys yt v1) := hD
  refine lv_aload_n hx hb dX2_add_48 rfl (lv_at hl 0 rfl) ?_
  obtain rfl := Option.some.inj hf
  exact ret 49 ls _ H locs dX2_add_49 rfl hP hS
abbrev rmX2_takeLatest : Room := { frames := 1, cells := 0, slots := 0, locals := 21 }
set_option maxHeartbeats 4000000 in
set_option maxRecDepth 100000 in
theorem c_X2_takeLatest (h0 : Nat) (x1 : Nat) (yl : Nat) (ys : Nat) (yt : Nat) (yo : Nat) (yn : Int32) (R : Nat × Nat × Nat × Nat × Nat × Int32) (hf : f_X2_takeLatest x1 yl ys yt yo yn = some R) : WrA l yX2_takeLatest wsX2_takeLatest rmX2_takeLatest D cI cC (w_hist cI cC h0 yl ys yt yo yn) (w_hist cI cC h0 R.2.1 R.2.2.1 R.2.2.2.1 R.2.2.2.2.1 R.2.2.2.2.2) [.ref h0, .ref x1] R.1 := by
  refine en_WA (C := "DriftGrinders$Grinder") (cc := cX2_takeLatest) (n := 3) rfl (by decide) rfl (Nat.le_of_ble_eq_true rfl) ?_
  intro p e s m args below meth c Q AA ls hx hb hml hown hts hK hN hP hD hS hl ret
  have hown : s.vm.findClass RX2 = some m.cls := hown
  have hF : FX p m c cX2_takeLatest 3 s args wsX2_takeLatest RX2 D cI cC := ⟨⟨hx, hb, hml, hown, hts⟩, hK, hN⟩
  have hl : lv_has ls 3 [(0, .ref h0), (1, .ref x1)] := hl
  have k1_ := hts (.fieldLink RX2 12 "DriftGrinders$History" "latest" "LDriftGrinders$Grinder;") (List.mem_of_getElem? (i := 1) rfl)
  have k2_ := hts (.fieldLink RX2 18 "DriftGrinders$History" "second" "LDriftGrinders$Grinder;") (List.mem_of_getElem? (i := 2) rfl)
  have k3_ := hts (.fieldLink RX2 21 "DriftGrinders$History" "third" "LDriftGrinders$Grinder;") (List.mem_of_getElem? (i := 3) rfl)
  have k4_ := hts (.fieldLink RX2 24 "DriftGrinders$History" "oldest" "LDriftGrinders$Grinder;") (List.mem_of_getElem? (i := 4) rfl)
  have k5_ := hts (.fieldLink RX2 27 "DriftGrinders$History" "states" "I") (List.mem_of_getElem? (i := 5) rfl)
  have k6_ := hts (.methodLink RX2 37 Lib.Math.max.name) (List.mem_of_getElem? (i := 6) rfl)
  have k7_ := hts (.static Lib.Math.max.name) (List.mem_of_getElem? (i := 7) rfl)
  have k8_ := hts (.initialized "java/lang/Math") (List.mem_of_getElem? (i := 8) rfl)
  have k9_ := hts (.code Lib.Math.max.name Lib.Math.max.code 2 (some .int)) (List.mem_of_getElem? (i := 9) rfl)
  have n2_ : ∀ w ∈ wsX20, w ∈ wsX2_takeLatest := fun _ h => List.mem_cons_of_mem _ (List.mem_append_right _ h)
  rw [f_X2_takeLatest] at hf
  obtain ⟨H, hH⟩ : ∃ z : Heap, z = s.heap := ⟨_, rfl⟩
  obtain ⟨locs, hL⟩ : ∃ z : List Loc, z = [] := ⟨_, rfl⟩
  replace hP := hH ▸ hP
  replace hS : va_S AA s.heap H locs := by rw [hH, hL]; exact hS
  suffices hgoal : W p l e rmX2_takeLatest s m args below meth c H locs 0 0 Q (F0 m 0 ls []) by rw [hH, hL] at hgoal; exact hgoal
  clear hH hL
  refine lv_aload_n hx hb dX2_takeLatest_0 rfl (lv_at hl 0 rfl) ?_
  refine va_get hx hb hts n2_ hown hK hP 0 rfl rfl 0 (Nat.le_of_ble_eq_true rfl) k1_ (fun _ h => h) rfl dX2_takeLatest_1 ?_
  refine lv_astore_n (lv' := [(2, .ref yl), (0, .ref h0), (1, .ref x1)]) hx hb dX2_takeLatest_4 rfl hl (by decide) rfl (fun ls hl => ?_)
  refine lv_aload_n hx hb dX2_takeLatest_5 rfl (lv_at hl 1 rfl) ?_
  refine lv_aload_n hx hb dX2_takeLatest_6 rfl (lv_at hl 1 rfl) ?_
  refine va_get hx hb hts n2_ hown hK hP 0 rfl rfl 1 (Nat.le_of_ble_eq_true rfl) k2_ (fun _ h => h) rfl dX2_takeLatest_7 ?_
  refine va_put hx hb hts n2_ tyX2 tyX2_ok nmX2 hown hK hP hD hS 0 rfl rfl 0 (Nat.le_of_ble_eq_true rfl) k1_ (fun _ h => h) rfl (v := .ref ys) (tyX2_ok 0 (Nat.le_of_ble_eq_true rfl)) rfl rfl (Nat.le_of_ble_eq_true rfl) dX2_takeLatest_10 (fun H locs hP hD hS => ?_)
  have hP : va_P D vwCl (w_hist cI cC h0 ys ys yt yo yn) H := hP
  have hD : va_D AA (w_hist cI cC h0 ys ys yt yo yn) := hD
  refine lv_aload_n hx hb dX2_takeLatest_13 rfl (lv_at hl 1 rfl) ?_
  refine lv_aload_n hx hb dX2_takeLatest_14 rfl (lv_at hl 1 rfl) ?_
  refine va_get hx hb hts n2_ hown hK hP 0 rfl rfl 2 (Nat.le_of_ble_eq_true rfl) k3_ (fun _ h => h) rfl dX2_takeLatest_15 ?_
  refine va_put hx hb hts n2_ tyX2 tyX2_ok nmX2 hown hK hP hD hS 0 rfl rfl 1 (Nat.le_of_ble_eq_true rfl) k2_ (fun _ h => h) rfl (v := .ref yt) (tyX2_ok 1 (Nat.le_of_ble_eq_true rfl)) rfl rfl (Nat.le_of_ble_eq_true rfl) dX2_takeLatest_18 (fun H locs hP hD hS => ?_)
  have hP : va_P D vwCl (w_hist cI cC h0 ys yt yt yo yn) H := hP
  have hD : va_D AA (w_hist cI cC h0 ys yt yt yo yn) := hD
  refine lv_aload_n hx hb dX2_takeLatest_21 rfl (lv_at hl 1 rfl) ?_
  refine lv_aload_n hx hb dX2_takeLatest_22 rfl (lv_at hl 1 rfl) ?_
  refine va_get hx hb hts n2_ hown hK hP 0 rfl rfl 3 (Nat.le_of_ble_eq_true rfl) k4_ (fun _ h => h) rfl dX2_takeLatest_23 ?_
  refine va_put hx hb hts n2_ tyX2 tyX2_ok nmX2 hown hK hP hD hS 0 rfl rfl 2 (Nat.le_of_ble_eq_true rfl) k3_ (fun _ h => h) rfl (v := .ref yo) (tyX2_ok 2 (Nat.le_of_ble_eq_true rfl)) rfl rfl (Nat.le_of_ble_eq_true rfl) dX2_takeLatest_26 (fun H locs hP hD hS => ?_)
  have hP : va_P D vwCl (w_hist cI cC h0 ys yt yo yo yn) H := hP
  have hD : va_D AA (w_hist cI cC h0 ys yt yo yo yn) := hD
  refine lv_aload_n hx hb dX2_takeLatest_29 rfl (lv_at hl 1 rfl) ?_
  refine lv_aload_n hx hb dX2_takeLatest_30 rfl (lv_at hl 2 rfl) ?_
  refine va_put hx hb hts n2_ tyX2 tyX2_ok nmX2 hown hK hP hD hS 0 rfl rfl 3 (Nat.le_of_ble_eq_true rfl) k4_ (fun _ h => h) rfl (v := .ref x1) (tyX2_ok 3 (Nat.le_of_ble_eq_true rfl)) rfl rfl (Nat.le_of_ble_eq_true rfl) dX2_takeLatest_31 (fun H locs hP hD hS => ?_)
  have hP : va_P D vwCl (w_hist cI cC h0 ys yt yo x1 yn) H := hP
  have hD : va_D AA (w_hist cI cC h0 ys yt yo x1 yn) := hD
  refine lv_aload_n hx hb dX2_takeLatest_34 rfl (lv_at hl 1 rfl) ?_
  refine lv_iconst (v := (0 : Int32)) hx hb dX2_takeLatest_35 (by decide) ?_
  refine lv_aload_n hx hb dX2_takeLatest_36 rfl (lv_at hl 1 rfl) ?_
  refine va_get hx hb hts n2_ hown hK hP 0 rfl rfl 4 (Nat.le_of_ble_eq_true rfl) k5_ (fun _ h => h) rfl dX2_takeLatest_37 ?_
  refine lv_iconst (v := (1 : Int32)) hx hb dX2_takeLatest_40 (by decide) ?_
  refine lv_isub hx hb dX2_takeLatest_41 ?_
  refine va_mmax hx hb (hml.trans hl.1.symm) hown k6_ k7_ k8_ k9_ (Nat.le_of_ble_eq_true rfl) (Nat.le_of_ble_eq_true rfl) (Nat.zero_le _) (Nat.zero_le _) dX2_takeLatest_42 ?_
  refine lv_topi (fun v1 ev1 => ?_)
  replace hf := lt_e ev1 hf
  refine va_put hx hb hts n2_ tyX2 tyX2_ok nmX2 hown hK hP hD hS 0 rfl rfl 4 (Nat.le_of_ble_eq_true rfl) k5_ (fun _ h => h) rfl (v := .int v1) (tyX2_ok 4 (Nat.le_of_ble_eq_true rfl)) rfl rfl (Nat.le_of_ble_eq_true rfl) dX2_takeLatest_45 (fun H locs hP hD hS => ?_)
  have hP : va_P D vwCl (w_hist cI cC h0 ys yt yo x1 v1) H := hP
  have hD : va_D AA (w_hist cI cC h0 ys yt yo x1 v1) := hD
  refine lv_aload_n hx hb dX2_takeLatest_48 rfl (lv_at hl 0 rfl) ?_
  obtain rfl := Option.some.inj hf
  exact ret 49 ls _ H locs dX2_takeLatest_49 rfl hP hS
abbrev rmX7_spareLikeNow : Room := { frames := 4, cells := 0, slots := 0, locals := 123 }
set_option maxHeartbeats 4000000 in
set_option maxRecDepth 100000 in
theorem c_X7_spareLikeNow (t0 : Nat) (t1 : Nat) (t2 : Nat) (a : Nat → Nat) (o : Nat → Nat) (nw : Nat) (sp : Nat) (g : Gr) (go : Gr) (R : Gr) (hf : f_X7_spareLikeNow nw sp g go = some R) : WrA l yX7_spareLikeNow wsX7_spareLikeNow rmX7_spareLikeNow D cI cC ([(t0, .inr (7, [.ref t1, .ref t2, .ref nw, .ref sp]))] ++ w_gr cI cC nw a g ++ w_gr cI cC sp o go) ([(t0, .inr (7, [.ref t1, .ref t2, .ref nw, .ref sp]))] ++ w_gr cI cC nw a g ++ w_gr cI cC sp o R) [.ref t0] sp := by
  refine en_WA (C := "DriftGrinders$Grinder") (cc := cX7_spareLikeNow) (n := 1) rfl (by decide) rfl (Nat.le_of_ble_eq_true rfl) ?_
  intro p e s m args below meth c Q AA ls hx hb hml hown hts hK hN hP hD hS hl ret
  have hown : s.vm.findClass RX7 = some m.cls := hown
  have hF : FX p m c cX7_spareLikeNow 1 s args wsX7_spareLikeNow RX7 D cI cC := ⟨⟨hx, hb, hml, hown, hts⟩, hK, hN⟩
  have hl : lv_has ls 1 [(0, .ref t0)] := hl
  have k1_ := hts (.fieldLink RX7 30 "DriftGrinders" "spare" "LDriftGrinders$Grinder;") (List.mem_of_getElem? (i := 1) rfl)
  have k2_ := hts (.fieldLink RX7 26 "DriftGrinders" "now" "LDriftGrinders$Grinder;") (List.mem_of_getElem? (i := 2) rfl)
  have n7_ : ∀ w ∈ wsX70, w ∈ wsX7_spareLikeNow := fun _ h => List.mem_cons_of_mem _ (List.mem_append_left _ (List.mem_append_left _ (List.mem_append_left _ (List.mem_append_left _ (List.mem_append_left _ (List.mem_append_right _ h))))))
  rw [f_X7_spareLikeNow] at hf
  obtain ⟨H, hH⟩ : ∃ z : Heap, z = s.heap := ⟨_, rfl⟩
  obtain ⟨locs, hL⟩ : ∃ z : List Loc, z = [] := ⟨_, rfl⟩
  replace hP := hH ▸ hP
  replace hS : va_S AA s.heap H locs := by rw [hH, hL]; exact hS
  suffices hgoal : W p l e rmX7_spareLikeNow s m args below meth c H locs 0 0 Q (F0 m 0 ls []) by rw [hH, hL] at hgoal; exact hgoal
  clear hH hL
  refine lv_aload_n hx hb dX7_spareLikeNow_0 rfl (lv_at hl 0 rfl) ?_
  refine va_get hx hb hts n7_ hown hK hP 0 rfl rfl 3 (Nat.le_of_ble_eq_true rfl) k1_ (fun _ h => h) rfl dX7_spareLikeNow_1 ?_
  refine lv_aload_n hx hb dX7_spareLikeNow_4 rfl (lv_at hl 0 rfl) ?_
  refine va_get hx hb hts n7_ hown hK hP 0 rfl rfl 2 (Nat.le_of_ble_eq_true rfl) k2_ (fun _ h => h) rfl dX7_spareLikeNow_5 ?_
  obtain ⟨q1, hq1, hf⟩ := ob hf
  refine cl_VV (W1 := ([(t0, .inr (7, [.ref t1, .ref t2, .ref nw, .ref sp]))] ++ w_gr cI cC nw a g ++ w_gr cI cC sp o q1)) (As := [.ref nw]) (rest := []) hF hP hD hS (C_X1_copyFrom sp o nw a go g q1 hq1) (cwV 1 hts gX7_spareLikeNow_X1_copyFrom rfl rfl rfl (by decide +kernel) ⟨(Nat.le_of_ble_eq_true rfl), (Nat.le_of_ble_eq_true rfl)⟩) [17, 18, 19, 20, 21, 22, 23, 24, 25, 26, 27, 28, 29, 30, 31, 32, 1, 2, 3, 4, 5, 6, 7, 8, 9, 10, 11, 12, 13, 14, 15, 16] rfl (by decide +kernel) (va_recv hK hP (ci := 1) (q0 := 17) rfl rfl) rfl rfl hl.1 (Nat.le_of_ble_eq_true rfl) dX7_spareLikeNow_8 ⟨Nat.zero_le _, Nat.zero_le _⟩ (hA2 [sp, (o 1), (o 2), (o 3), (o 4), (o 5), (o 6), (o 7), (o 8), (o 9), (o 10), (o 11), (o 12), (o 13), (o 14), (o 15), nw, (a 1), (a 2), (a 3), (a 4), (a 5), (a 6), (a 7), (a 8), (a 9), (a 10), (a 11), (a 12), (a 13), (a 14), (a 15)] rfl rfl) [0] rfl [(t0, .inr (7, [.ref t1, .ref t2, .ref nw, .ref sp]))] rfl rfl (nW := 33) rfl (by decide +kernel) (fun H locs hP hD hS => ?_)
  refine lv_aload_n hx hb dX7_spareLikeNow_11 rfl (lv_at hl 0 rfl) ?_
  refine va_get hx hb hts n7_ hown hK hP 0 rfl rfl 3 (Nat.le_of_ble_eq_true rfl) k1_ (fun _ h => h) rfl dX7_spareLikeNow_12 ?_
  obtain rfl := Option.some.inj hf
  exact ret 15 ls _ H locs dX7_spareLikeNow_15 rfl hP hS
abbrev rmX7_keepIfDone : Room := { frames := 2, cells := 0, slots := 0, locals := 43 }
set_option maxHeartbeats 4000000 in
set_option maxRecDepth 100000 in
theorem c_X7_keepIfDone (t0 : Nat) (t1 : Nat) (t2 : Nat) (x1 : Int32) (nw : Nat) (sp : Nat) (yl : Nat) (ys : Nat) (yt : Nat) (yo : Nat) (yn : Int32) (R : Int32 × Nat × Nat × Nat × Nat × Nat × Nat × Int32) (hf : f_X7_keepIfDone x1 nw sp yl ys yt yo yn = some R) : WrI l yX7_keepIfDone wsX7_keepIfDone rmX7_keepIfDone D cI cC (w_toph cI cC t0 t1 t2 nw sp yl ys yt yo yn) (w_toph cI cC t0 t1 t2 R.2.1 R.2.2.1 R.2.2.2.1 R.2.2.2.2.1 R.2.2.2.2.2.1 R.2.2.2.2.2.2.1 R.2.2.2.2.2.2.2) [.ref t0, .int x1] R.1 := by
  refine en_W (cc := cX7_keepIfDone) (n := 3) (by decide) rfl (Nat.le_of_ble_eq_true rfl) ?_
  intro p e s m args below meth c Q AA ls hx hb hml hown hts hK hN hP hD hS hl ret
  have hown : s.vm.findClass RX7 = some m.cls := hown
  have hF : FX p m c cX7_keepIfDone 3 s args wsX7_keepIfDone RX7 D cI cC := ⟨⟨hx, hb, hml, hown, hts⟩, hK, hN⟩
  have hl : lv_has ls 3 [(0, .ref t0), (1, .int x1)] := hl
  have k1_ := hts (.fieldLink RX7 26 "DriftGrinders" "now" "LDriftGrinders$Grinder;") (List.mem_of_getElem? (i := 1) rfl)
  have k2_ := hts (.fieldLink RX7 30 "DriftGrinders" "spare" "LDriftGrinders$Grinder;") (List.mem_of_getElem? (i := 2) rfl)
  have k3_ := hts (.fieldLink RX7 10 "DriftGrinders" "history" "LDriftGrinders$History;") (List.mem_of_getElem? (i := 3) rfl)
  have n7_ : ∀ w ∈ wsX70, w ∈ wsX7_keepIfDone := fun _ h => List.mem_cons_of_mem _ (List.mem_append_left _ (List.mem_append_right _ h))
  rw [f_X7_keepIfDone] at hf
  obtain ⟨H, hH⟩ : ∃ z : Heap, z = s.heap := ⟨_, rfl⟩
  obtain ⟨locs, hL⟩ : ∃ z : List Loc, z = [] := ⟨_, rfl⟩
  replace hP := hH ▸ hP
  replace hS : va_S AA s.heap H locs := by rw [hH, hL]; exact hS
  suffices hgoal : W p l e rmX7_keepIfDone s m args below meth c H locs 0 0 Q (F0 m 0 ls []) by rw [hH, hL] at hgoal; exact hgoal
  clear hH hL
  refine lv_iload_n hx hb dX7_keepIfDone_0 rfl (lv_at hl 1 rfl) ?_
  refine lv_if_ge (tgt := 6) hx hb dX7_keepIfDone_1 (by decide) (fun hc1 => ?_) (fun hc1 => ?_)
  · replace hf := it hc1 hf
    refine lv_aload_n hx hb dX7_keepIfDone_6 rfl (lv_at hl 0 rfl) ?_
    refine va_get hx hb hts n7_ hown hK hP 0 rfl rfl 2 (Nat.le_of_ble_eq_true rfl) k1_ (fun _ h => h) rfl dX7_keepIfDone_7 ?_
    refine lv_astore_n (lv' := [(2, .ref nw), (0, .ref t0), (1, .int x1)]) hx hb dX7_keepIfDone_10 rfl hl (by decide) rfl (fun ls hl => ?_)
    refine lv_aload_n hx hb dX7_keepIfDone_11 rfl (lv_at hl 1 rfl) ?_
    refine lv_aload_n hx hb dX7_keepIfDone_12 rfl (lv_at hl 1 rfl) ?_
    refine va_get hx hb hts n7_ hown hK hP 0 rfl rfl 3 (Nat.le_of_ble_eq_true rfl) k2_ (fun _ h => h) rfl dX7_keepIfDone_13 ?_
    refine va_put hx hb hts n7_ tyX7 tyX7_ok nmX7 hown hK hP hD hS 0 rfl rfl 2 (Nat.le_of_ble_eq_true rfl) k1_ (fun _ h => h) rfl (v := .ref sp) (tyX7_ok 2 (Nat.le_of_ble_eq_true rfl)) rfl rfl (Nat.le_of_ble_eq_true rfl) dX7_keepIfDone_16 (fun H locs hP hD hS => ?_)
    have hP : va_P D vwCl (w_toph cI cC t0 t1 t2 sp sp yl ys yt yo yn) H := hP
    have hD : va_D AA (w_toph cI cC t0 t1 t2 sp sp yl ys yt yo yn) := hD
    refine lv_aload_n hx hb dX7_keepIfDone_19 rfl (lv_at hl 1 rfl) ?_
    refine lv_aload_n hx hb dX7_keepIfDone_20 rfl (lv_at hl 1 rfl) ?_
    refine va_get hx hb hts n7_ hown hK hP 0 rfl rfl 0 (Nat.le_of_ble_eq_true rfl) k3_ (fun _ h => h) rfl dX7_keepIfDone_21 ?_
    refine lv_aload_n hx hb dX7_keepIfDone_24 rfl (lv_at hl 0 rfl) ?_
    obtain ⟨q2, hq2, hf⟩ := ob hf
    refine cl_WAV (W1 := (w_toph cI cC t0 t1 t2 sp sp q2.2.1 q2.2.2.1 q2.2.2.2.1 q2.2.2.2.2.1 q2.2.2.2.2.2)) (As := [.ref nw]) (rest := [.ref t0]) hF hP hD hS (c_X2_add t1 nw yl ys yt yo yn q2 hq2) (cwV 1 hts gX7_keepIfDone_X2_add rfl rfl rfl (by decide +kernel) ⟨(Nat.le_of_ble_eq_true rfl), (Nat.le_of_ble_eq_true rfl)⟩) [1] rfl (by decide +kernel) (va_recv hK hP (ci := 2) (q0 := 1) rfl rfl) rfl rfl hl.1 (Nat.le_of_ble_eq_true rfl) dX7_keepIfDone_25 ⟨Nat.zero_le _, Nat.zero_le _⟩ (hA2 [t1] rfl rfl) [0] rfl [(t0, .inr (7, [.ref t1, .ref t2, .ref sp, .ref sp]))] rfl rfl (nW := 2) rfl (by decide +kernel) (fun H locs hP hD hS => ?_)
    refine va_put hx hb hts n7_ tyX7 tyX7_ok nmX7 hown hK hP hD hS 0 rfl rfl 3 (Nat.le_of_ble_eq_true rfl) k2_ (fun _ h => h) rfl (v := .ref q2.1) (tyX7_ok 3 (Nat.le_of_ble_eq_true rfl)) rfl rfl (Nat.le_of_ble_eq_true rfl) dX7_keepIfDone_28 (fun H locs hP hD hS => ?_)
    have hP : va_P D vwCl (w_toph cI cC t0 t1 t2 sp q2.1 q2.2.1 q2.2.2.1 q2.2.2.2.1 q2.2.2.2.2.1 q2.2.2.2.2.2) H := hP
    have hD : va_D AA (w_toph cI cC t0 t1 t2 sp q2.1 q2.2.1 q2.2.2.1 q2.2.2.2.1 q2.2.2.2.2.1 q2.2.2.2.2.2) := hD
    refine lv_iload_n hx hb dX7_keepIfDone_31 rfl (lv_at hl 2 rfl) ?_
    obtain rfl := Option.some.inj hf
    exact ret 32 ls _ H locs dX7_keepIfDone_32 rfl rfl hP hS
  · replace hf := ie hc1 hf
    refine lv_iload_n hx hb dX7_keepIfDone_4 rfl (lv_at hl 1 rfl) ?_
    obtain rfl := Option.some.inj hf
    exact ret 5 ls _ H locs dX7_keepIfDone_5 rfl rfl hP hS
abbrev rmX7_fill : Room := { frames := 5, cells := 0, slots := 0, locals := 143 }
set_option maxHeartbeats 4000000 in
set_option maxRecDepth 100000 in
theorem c_X7_fill (t0 : Nat) (t1 : Nat) (t2 : Nat) (a : Nat → Nat) (o : Nat → Nat) (x1 : Int32) (x2 : Int32) (nw : Nat) (sp : Nat) (yl : Nat) (ys : Nat) (yt : Nat) (yo : Nat) (yn : Int32) (g : Gr) (go : Gr) (R : Int32 × Nat × Nat × Nat × Nat × Nat × Nat × Int32 × Gr) (hf : f_X7_fill x1 x2 nw sp yl ys yt yo yn g go = some R) : WrI l yX7_fill wsX7_fill rmX7_fill D cI cC ([(t0, .inr (7, [.ref t1, .ref t2, .ref nw, .ref sp])), (t1, .inr (2, [.ref yl, .ref ys, .ref yt, .ref yo, .int yn]))] ++ w_gr cI cC nw a g ++ w_gr cI cC sp o go) ([(t0, .inr (7, [.ref t1, .ref t2, .ref R.2.1, .ref R.2.2.1])), (t1, .inr (2, [.ref R.2.2.2.1, .ref R.2.2.2.2.1, .ref R.2.2.2.2.2.1, .ref R.2.2.2.2.2.2.1, .int R.2.2.2.2.2.2.2.1]))] ++ w_gr cI cC nw a g ++ w_gr cI cC sp o R.2.2.2.2.2.2.2.2) [.ref t0, .int x1, .int x2] R.1 := by
  refine en_W (cc := cX7_fill) (n := 3) (by decide) rfl (Nat.le_of_ble_eq_true rfl) ?_
  intro p e s m args below meth c Q AA ls hx hb hml hown hts hK hN hP hD hS hl ret
  have hown : s.vm.findClass RX7 = some m.cls := hown
  have hF : FX p m c cX7_fill 3 s args wsX7_fill RX7 D cI cC := ⟨⟨hx, hb, hml, hown, hts⟩, hK, hN⟩
  have hl : lv_has ls 3 [(0, .ref t0), (1, .int x1), (2, .int x2)] := hl
  rw [f_X7_fill] at hf
  obtain ⟨H, hH⟩ : ∃ z : Heap, z = s.heap := ⟨_, rfl⟩
  obtain ⟨locs, hL⟩ : ∃ z : List Loc, z = [] := ⟨_, rfl⟩
  replace hP := hH ▸ hP
  replace hS : va_S AA s.heap H locs := by rw [hH, hL]; exact hS
  suffices hgoal : W p l e rmX7_fill s m args below meth c H locs 0 0 Q (F0 m 0 ls []) by rw [hH, hL] at hgoal; exact hgoal
  clear hH hL
  refine lv_aload_n hx hb dX7_fill_0 rfl (lv_at hl 0 rfl) ?_
  refine lv_aload_n hx hb dX7_fill_1 rfl (lv_at hl 0 rfl) ?_
  obtain ⟨q1, hq1, hf⟩ := ob hf
  refine cl_WAV (W1 := ([(t0, .inr (7, [.ref t1, .ref t2, .ref nw, .ref sp])), (t1, .inr (2, [.ref yl, .ref ys, .ref yt, .ref yo, .int yn]))] ++ w_gr cI cC nw a g ++ w_gr cI cC sp o q1)) (As := []) (rest := [.ref t0]) hF hP hD hS (c_X7_spareLikeNow t0 t1 t2 a o nw sp g go q1 hq1) (cwV 0 hts gX7_fill_X7_spareLikeNow rfl rfl rfl (by decide +kernel) ⟨(Nat.le_of_ble_eq_true rfl), (Nat.le_of_ble_eq_true rfl)⟩) [0, 2, 3, 4, 5, 6, 7, 8, 9, 10, 11, 12, 13, 14, 15, 16, 17, 18, 19, 20, 21, 22, 23, 24, 25, 26, 27, 28, 29, 30, 31, 32, 33] rfl (by decide +kernel) (va_recv hK hP (ci := 7) (q0 := 0) rfl rfl) rfl rfl hl.1 (Nat.le_of_ble_eq_true rfl) dX7_fill_2 ⟨Nat.zero_le _, Nat.zero_le _⟩ (hA2 [t0, nw, (a 1), (a 2), (a 3), (a 4), (a 5), (a 6), (a 7), (a 8), (a 9), (a 10), (a 11), (a 12), (a 13), (a 14), (a 15), sp, (o 1), (o 2), (o 3), (o 4), (o 5), (o 6), (o 7), (o 8), (o 9), (o 10), (o 11), (o 12), (o 13), (o 14), (o 15)] rfl rfl) [1] rfl [(t1, .inr (2, [.ref yl, .ref ys, .ref yt, .ref yo, .int yn]))] rfl rfl (nW := 34) rfl (by decide +kernel) (fun H locs hP hD hS => ?_)
  refine lv_iload_n hx hb dX7_fill_5 rfl (lv_at hl 1 rfl) ?_
  refine lv_iload_n hx hb dX7_fill_6 rfl (lv_at hl 2 rfl) ?_
  obtain ⟨q2, hq2, hf⟩ := ob hf
  refine cl_WV (W1 := ([(t0, .inr (7, [.ref t1, .ref t2, .ref nw, .ref sp])), (t1, .inr (2, [.ref yl, .ref ys, .ref yt, .ref yo, .int yn]))] ++ w_gr cI cC nw a g ++ w_gr cI cC sp o q2.2)) (As := [.int x1, .int x2]) (rest := [.ref t0]) hF hP hD hS (C_X1_fillIn sp o x1 x2 q1 q2 hq2) (cwV 2 hts gX7_fill_X1_fillIn rfl rfl rfl (by decide +kernel) ⟨(Nat.le_of_ble_eq_true rfl), (Nat.le_of_ble_eq_true rfl)⟩) [18, 19, 20, 21, 22, 23, 24, 25, 26, 27, 28, 29, 30, 31, 32, 33] rfl (by decide +kernel) (va_recv hK hP (ci := 1) (q0 := 18) rfl rfl) rfl rfl hl.1 (Nat.le_of_ble_eq_true rfl) dX7_fill_7 ⟨Nat.zero_le _, Nat.zero_le _⟩ (hA2 [sp, (o 1), (o 2), (o 3), (o 4), (o 5), (o 6), (o 7), (o 8), (o 9), (o 10), (o 11), (o 12), (o 13), (o 14), (o 15)] rfl rfl) [0, 1, 2, 3, 4, 5, 6, 7, 8, 9, 10, 11, 12, 13, 14, 15, 16, 17] rfl [(t0, .inr (7, [.ref t1, .ref t2, .ref nw, .ref sp])), (t1, .inr (2, [.ref yl, .ref ys, .ref yt, .ref yo, .int yn])), (nw, .inr (1, [.ref (a 1), .ref (a 5), .ref (a 6), .ref (a 7), .ref (a 10), .ref (a 13), .ref (a 15), .int g.2.2.2.2.2.2.2.2.2.2.2.2.2.2.2.2.2.2.2.2.2.2.2.2.1, .int g.2.2.2.2.2.2.2.2.2.2.2.2.2.2.2.2.2.2.2.2.2.2.2.2.2.1, .int g.2.2.2.2.2.2.2.2.2.2.2.2.2.2.2.2.2.2.2.2.2.2.2.2.2.2.1, .int g.2.2.2.2.2.2.2.2.2.2.2.2.2.2.2.2.2.2.2.2.2.2.2.2.2.2.2.1, .int g.2.2.2.2.2.2.2.2.2.2.2.2.2.2.2.2.2.2.2.2.2.2.2.2.2.2.2.2.1, .int g.2.2.2.2.2.2.2.2.2.2.2.2.2.2.2.2.2.2.2.2.2.2.2.2.2.2.2.2.2])), ((a 1), .inr (3, [.ref (a 2)])), ((a 2), .inr (5, [.ref (a 3), .ref (a 4), .int g.2.2.1, .int g.2.2.2.1])), ((a 3), .inl (cI, 6, .inl g.1)), ((a 4), .inl (cI, 6, .inl g.2.1)), ((a 5), .inr (0, [.int g.2.2.2.2.1, .int g.2.2.2.2.2.1, .int g.2.2.2.2.2.2.1, .int g.2.2.2.2.2.2.2.1])), ((a 6), .inr (0, [.int g.2.2.2.2.2.2.2.2.1, .int g.2.2.2.2.2.2.2.2.2.1, .int g.2.2.2.2.2.2.2.2.2.2.1, .int g.2.2.2.2.2.2.2.2.2.2.2.1])), ((a 7), .inr (5, [.ref (a 8), .ref (a 9), .int g.2.2.2.2.2.2.2.2.2.2.2.2.2.2.1, .int g.2.2.2.2.2.2.2.2.2.2.2.2.2.2.2.1])), ((a 8), .inl (cI, 106, .inl g.2.2.2.2.2.2.2.2.2.2.2.2.1)), ((a 9), .inl (cI, 106, .inl g.2.2.2.2.2.2.2.2.2.2.2.2.2.1)), ((a 10), .inr (5, [.ref (a 11), .ref (a 12), .int g.2.2.2.2.2.2.2.2.2.2.2.2.2.2.2.2.2.2.1, .int g.2.2.2.2.2.2.2.2.2.2.2.2.2.2.2.2.2.2.2.1])), ((a 11), .inl (cI, 400, .inl g.2.2.2.2.2.2.2.2.2.2.2.2.2.2.2.2.1)), ((a 12), .inl (cI, 400, .inl g.2.2.2.2.2.2.2.2.2.2.2.2.2.2.2.2.2.1)), ((a 13), .inr (6, [.ref (a 14), .int g.2.2.2.2.2.2.2.2.2.2.2.2.2.2.2.2.2.2.2.2.2.1, .int g.2.2.2.2.2.2.2.2.2.2.2.2.2.2.2.2.2.2.2.2.2.2.1])), ((a 14), .inl (cI, 96, .inl g.2.2.2.2.2.2.2.2.2.2.2.2.2.2.2.2.2.2.2.2.1)), ((a 15), .inl (cI, 6, .inl g.2.2.2.2.2.2.2.2.2.2.2.2.2.2.2.2.2.2.2.2.2.2.2.1))] rfl rfl (nW := 34) rfl (by decide +kernel) (fun H locs hP hD hS => ?_)
  obtain ⟨q3, hq3, hf⟩ := ob hf
  refine cl_WV (W1 := ([(t0, .inr (7, [.ref t1, .ref t2, .ref q3.2.1, .ref q3.2.2.1])), (t1, .inr (2, [.ref q3.2.2.2.1, .ref q3.2.2.2.2.1, .ref q3.2.2.2.2.2.1, .ref q3.2.2.2.2.2.2.1, .int q3.2.2.2.2.2.2.2]))] ++ w_gr cI cC nw a g ++ w_gr cI cC sp o q2.2)) (As := [.int q2.1]) (rest := []) hF hP hD hS (c_X7_keepIfDone t0 t1 t2 q2.1 nw sp yl ys yt yo yn q3 hq3) (cwV 1 hts gX7_fill_X7_keepIfDone rfl rfl rfl (by decide +kernel) ⟨(Nat.le_of_ble_eq_true rfl), (Nat.le_of_ble_eq_true rfl)⟩) [0, 1] rfl (by decide +kernel) (va_recv hK hP (ci := 7) (q0 := 0) rfl rfl) rfl rfl hl.1 (Nat.le_of_ble_eq_true rfl) dX7_fill_10 ⟨Nat.zero_le _, Nat.zero_le _⟩ (hA2 [t0, t1] rfl rfl) [2, 3, 4, 5, 6, 7, 8, 9, 10, 11, 12, 13, 14, 15, 16, 17, 18, 19, 20, 21, 22, 23, 24, 25, 26, 27, 28, 29, 30, 31, 32, 33] rfl [(nw, .inr (1, [.ref (a 1), .ref (a 5), .ref (a 6), .ref (a 7), .ref (a 10), .ref (a 13), .ref (a 15), .int g.2.2.2.2.2.2.2.2.2.2.2.2.2.2.2.2.2.2.2.2.2.2.2.2.1, .int g.2.2.2.2.2.2.2.2.2.2.2.2.2.2.2.2.2.2.2.2.2.2.2.2.2.1, .int g.2.2.2.2.2.2.2.2.2.2.2.2.2.2.2.2.2.2.2.2.2.2.2.2.2.2.1, .int g.2.2.2.2.2.2.2.2.2.2.2.2.2.2.2.2.2.2.2.2.2.2.2.2.2.2.2.1, .int g.2.2.2.2.2.2.2.2.2.2.2.2.2.2.2.2.2.2.2.2.2.2.2.2.2.2.2.2.1, .int g.2.2.2.2.2.2.2.2.2.2.2.2.2.2.2.2.2.2.2.2.2.2.2.2.2.2.2.2.2])), ((a 1), .inr (3, [.ref (a 2)])), ((a 2), .inr (5, [.ref (a 3), .ref (a 4), .int g.2.2.1, .int g.2.2.2.1])), ((a 3), .inl (cI, 6, .inl g.1)), ((a 4), .inl (cI, 6, .inl g.2.1)), ((a 5), .inr (0, [.int g.2.2.2.2.1, .int g.2.2.2.2.2.1, .int g.2.2.2.2.2.2.1, .int g.2.2.2.2.2.2.2.1])), ((a 6), .inr (0, [.int g.2.2.2.2.2.2.2.2.1, .int g.2.2.2.2.2.2.2.2.2.1, .int g.2.2.2.2.2.2.2.2.2.2.1, .int g.2.2.2.2.2.2.2.2.2.2.2.1])), ((a 7), .inr (5, [.ref (a 8), .ref (a 9), .int g.2.2.2.2.2.2.2.2.2.2.2.2.2.2.1, .int g.2.2.2.2.2.2.2.2.2.2.2.2.2.2.2.1])), ((a 8), .inl (cI, 106, .inl g.2.2.2.2.2.2.2.2.2.2.2.2.1)), ((a 9), .inl (cI, 106, .inl g.2.2.2.2.2.2.2.2.2.2.2.2.2.1)), ((a 10), .inr (5, [.ref (a 11), .ref (a 12), .int g.2.2.2.2.2.2.2.2.2.2.2.2.2.2.2.2.2.2.1, .int g.2.2.2.2.2.2.2.2.2.2.2.2.2.2.2.2.2.2.2.1])), ((a 11), .inl (cI, 400, .inl g.2.2.2.2.2.2.2.2.2.2.2.2.2.2.2.2.1)), ((a 12), .inl (cI, 400, .inl g.2.2.2.2.2.2.2.2.2.2.2.2.2.2.2.2.2.1)), ((a 13), .inr (6, [.ref (a 14), .int g.2.2.2.2.2.2.2.2.2.2.2.2.2.2.2.2.2.2.2.2.2.1, .int g.2.2.2.2.2.2.2.2.2.2.2.2.2.2.2.2.2.2.2.2.2.2.1])), ((a 14), .inl (cI, 96, .inl g.2.2.2.2.2.2.2.2.2.2.2.2.2.2.2.2.2.2.2.2.1)), ((a 15), .inl (cI, 6, .inl g.2.2.2.2.2.2.2.2.2.2.2.2.2.2.2.2.2.2.2.2.2.2.2.1)), (sp, .inr (1, [.ref (o 1), .ref (o 5), .ref (o 6), .ref (o 7), .ref (o 10), .ref (o 13), .ref (o 15), .int q2.2.2.2.2.2.2.2.2.2.2.2.2.2.2.2.2.2.2.2.2.2.2.2.2.2.1, .int q2.2.2.2.2.2.2.2.2.2.2.2.2.2.2.2.2.2.2.2.2.2.2.2.2.2.2.1, .int q2.2.2.2.2.2.2.2.2.2.2.2.2.2.2.2.2.2.2.2.2.2.2.2.2.2.2.2.1, .int q2.2.2.2.2.2.2.2.2.2.2.2.2.2.2.2.2.2.2.2.2.2.2.2.2.2.2.2.2.1, .int q2.2.2.2.2.2.2.2.2.2.2.2.2.2.2.2.2.2.2.2.2.2.2.2.2.2.2.2.2.2.1, .int q2.2.2.2.2.2.2.2.2.2.2.2.2.2.2.2.2.2.2.2.2.2.2.2.2.2.2.2.2.2.2])), ((o 1), .inr (3, [.ref (o 2)])), ((o 2), .inr (5, [.ref (o 3), .ref (o 4), .int q2.2.2.2.1, .int q2.2.2.2.2.1])), ((o 3), .inl (cI, 6, .inl q2.2.1)), ((o 4), .inl (cI, 6, .inl q2.2.2.1)), ((o 5), .inr (0, [.int q2.2.2.2.2.2.1, .int q2.2.2.2.2.2.2.1, .int q2.2.2.2.2.2.2.2.1, .int q2.2.2.2.2.2.2.2.2.1])), ((o 6), .inr (0, [.int q2.2.2.2.2.2.2.2.2.2.1, .int q2.2.2.2.2.2.2.2.2.2.2.1, .int q2.2.2.2.2.2.2.2.2.2.2.2.1, .int q2.2.2.2.2.2.2.2.2.2.2.2.2.1])), ((o 7), .inr (5, [.ref (o 8), .ref (o 9), .int q2.2.2.2.2.2.2.2.2.2.2.2.2.2.2.2.1, .int q2.2.2.2.2.2.2.2.2.2.2.2.2.2.2.2.2.1])), ((o 8), .inl (cI, 106, .inl q2.2.2.2.2.2.2.2.2.2.2.2.2.2.1)), ((o 9), .inl (cI, 106, .inl q2.2.2.2.2.2.2.2.2.2.2.2.2.2.2.1)), ((o 10), .inr (5, [.ref (o 11), .ref (o 12), .int q2.2.2.2.2.2.2.2.2.2.2.2.2.2.2.2.2.2.2.2.1, .int q2.2.2.2.2.2.2.2.2.2.2.2.2.2.2.2.2.2.2.2.2.1])), ((o 11), .inl (cI, 400, .inl q2.2.2.2.2.2.2.2.2.2.2.2.2.2.2.2.2.2.1)), ((o 12), .inl (cI, 400, .inl q2.2.2.2.2.2.2.2.2.2.2.2.2.2.2.2.2.2.2.1)), ((o 13), .inr (6, [.ref (o 14), .int q2.2.2.2.2.2.2.2.2.2.2.2.2.2.2.2.2.2.2.2.2.2.2.1, .int q2.2.2.2.2.2.2.2.2.2.2.2.2.2.2.2.2.2.2.2.2.2.2.2.1])), ((o 14), .inl (cI, 96, .inl q2.2.2.2.2.2.2.2.2.2.2.2.2.2.2.2.2.2.2.2.2.2.1)), ((o 15), .inl (cI, 6, .inl q2.2.2.2.2.2.2.2.2.2.2.2.2.2.2.2.2.2.2.2.2.2.2.2.2.1))] rfl rfl (nW := 34) rfl (by decide +kernel) (fun H locs hP hD hS => ?_)
  obtain rfl := Option.some.inj hf
  exact ret 13 ls _ H locs dX7_fill_13 rfl rfl hP hS
abbrev rmX7_grind : Room := { frames := 5, cells := 0, slots := 0, locals := 156 }
set_option maxHeartbeats 4000000 in
set_option maxRecDepth 100000 in
theorem c_X7_grind (t0 : Nat) (t1 : Nat) (t2 : Nat) (a : Nat → Nat) (o : Nat → Nat) (x1 : Int32) (x2 : Int32) (nw : Nat) (sp : Nat) (yl : Nat) (ys : Nat) (yt : Nat) (yo : Nat) (yn : Int32) (g : Gr) (go : Gr) (R : Int32 × Nat × Nat × Nat × Nat × Nat × Nat × Int32 × Gr) (hf : f_X7_grind x1 x2 nw sp yl ys yt yo yn g go = some R) : WrI l yX7_grind wsX7_grind rmX7_grind D cI cC ([(t0, .inr (7, [.ref t1, .ref t2, .ref nw, .ref sp])), (t1, .inr (2, [.ref yl, .ref ys, .ref yt, .ref yo, .int yn]))] ++ w_gr cI cC nw a g ++ w_gr cI cC sp o go) ([(t0, .inr (7, [.ref t1, .ref t2, .ref R.2.1, .ref R.2.2.1])), (t1, .inr (2, [.ref R.2.2.2.1, .ref R.2.2.2.2.1, .ref R.2.2.2.2.2.1, .ref R.2.2.2.2.2.2.1, .int R.2.2.2.2.2.2.2.1]))] ++ w_gr cI cC nw a g ++ w_gr cI cC sp o R.2.2.2.2.2.2.2.2) [.ref t0, .int x1, .int x2] R.1 := by
  refine en_W (cc := cX7_grind) (n := 3) (by decide) rfl (Nat.le_of_ble_eq_true rfl) ?_
  intro p e s m args below meth c Q AA ls hx hb hml hown hts hK hN hP hD hS hl ret
  have hown : s.vm.findClass RX7 = some m.cls := hown
  have hF : FX p m c cX7_grind 3 s args wsX7_grind RX7 D cI cC := ⟨⟨hx, hb, hml, hown, hts⟩, hK, hN⟩
  have hl : lv_has ls 3 [(0, .ref t0), (1, .int x1), (2, .int x2)] := hl
  rw [f_X7_grind] at hf
  obtain ⟨H, hH⟩ : ∃ z : Heap, z = s.heap := ⟨_, rfl⟩
  obtain ⟨locs, hL⟩ : ∃ z : List Loc, z = [] := ⟨_, rfl⟩
  replace hP := hH ▸ hP
  replace hS : va_S AA s.heap H locs := by rw [hH, hL]; exact hS
  suffices hgoal : W p l e rmX7_grind s m args below meth c H locs 0 0 Q (F0 m 0 ls []) by rw [hH, hL] at hgoal; exact hgoal
  clear hH hL
  refine lv_aload_n hx hb dX7_grind_0 rfl (lv_at hl 0 rfl) ?_
  refine lv_aload_n hx hb dX7_grind_1 rfl (lv_at hl 0 rfl) ?_
  obtain ⟨q1, hq1, hf⟩ := ob hf
  refine cl_WAV (W1 := ([(t0, .inr (7, [.ref t1, .ref t2, .ref nw, .ref sp])), (t1, .inr (2, [.ref yl, .ref ys, .ref yt, .ref yo, .int yn]))] ++ w_gr cI cC nw a g ++ w_gr cI cC sp o q1)) (As := []) (rest := [.ref t0]) hF hP hD hS (c_X7_spareLikeNow t0 t1 t2 a o nw sp g go q1 hq1) (cwV 0 hts gX7_grind_X7_spareLikeNow rfl rfl rfl (by decide +kernel) ⟨(Nat.le_of_ble_eq_true rfl), (Nat.le_of_ble_eq_true rfl)⟩) [0, 2, 3, 4, 5, 6, 7, 8, 9, 10, 11, 12, 13, 14, 15, 16, 17, 18, 19, 20, 21, 22, 23, 24, 25, 26, 27, 28, 29, 30, 31, 32, 33] rfl (by decide +kernel) (va_recv hK hP (ci := 7) (q0 := 0) rfl rfl) rfl rfl hl.1 (Nat.le_of_ble_eq_true rfl) dX7_grind_2 ⟨Nat.zero_le _, Nat.zero_le _⟩ (hA2 [t0, nw, (a 1), (a 2), (a 3), (a 4), (a 5), (a 6), (a 7), (a 8), (a 9), (a 10), (a 11), (a 12), (a 13), (a 14), (a 15), sp, (o 1), (o 2), (o 3), (o 4), (o 5), (o 6), (o 7), (o 8), (o 9), (o 10), (o 11), (o 12), (o 13), (o 14), (o 15)] rfl rfl) [1] rfl [(t1, .inr (2, [.ref yl, .ref ys, .ref yt, .ref yo, .int yn]))] rfl rfl (nW := 34) rfl (by decide +kernel) (fun H locs hP hD hS => ?_)
  refine lv_iload_n hx hb dX7_grind_5 rfl (lv_at hl 1 rfl) ?_
  refine lv_iload_n hx hb dX7_grind_6 rfl (lv_at hl 2 rfl) ?_
  obtain ⟨q2, hq2, hf⟩ := ob hf
  refine cl_WV (W1 := ([(t0, .inr (7, [.ref t1, .ref t2, .ref nw, .ref sp])), (t1, .inr (2, [.ref yl, .ref ys, .ref yt, .ref yo, .int yn]))] ++ w_gr cI cC nw a g ++ w_gr cI cC sp o q2.2)) (As := [.int x1, .int x2]) (rest := [.ref t0]) hF hP hD hS (C_X1_grindBy sp o x1 x2 q1 q2 hq2) (cwV 2 hts gX7_grind_X1_grindBy rfl rfl rfl (by decide +kernel) ⟨(Nat.le_of_ble_eq_true rfl), (Nat.le_of_ble_eq_true rfl)⟩) [18, 19, 20, 21, 22, 23, 24, 25, 26, 27, 28, 29, 30, 31, 32, 33] rfl (by decide +kernel) (va_recv hK hP (ci := 1) (q0 := 18) rfl rfl) rfl rfl hl.1 (Nat.le_of_ble_eq_true rfl) dX7_grind_7 ⟨Nat.zero_le _, Nat.zero_le _⟩ (hA2 [sp, (o 1), (o 2), (o 3), (o 4), (o 5), (o 6), (o 7), (o 8), (o 9), (o 10), (o 11), (o 12), (o 13), (o 14), (o 15)] rfl rfl) [0, 1, 2, 3, 4, 5, 6, 7, 8, 9, 10, 11, 12, 13, 14, 15, 16, 17] rfl [(t0, .inr (7, [.ref t1, .ref t2, .ref nw, .ref sp])), (t1, .inr (2, [.ref yl, .ref ys, .ref yt, .ref yo, .int yn])), (nw, .inr (1, [.ref (a 1), .ref (a 5), .ref (a 6), .ref (a 7), .ref (a 10), .ref (a 13), .ref (a 15), .int g.2.2.2.2.2.2.2.2.2.2.2.2.2.2.2.2.2.2.2.2.2.2.2.2.1, .int g.2.2.2.2.2.2.2.2.2.2.2.2.2.2.2.2.2.2.2.2.2.2.2.2.2.1, .int g.2.2.2.2.2.2.2.2.2.2.2.2.2.2.2.2.2.2.2.2.2.2.2.2.2.2.1, .int g.2.2.2.2.2.2.2.2.2.2.2.2.2.2.2.2.2.2.2.2.2.2.2.2.2.2.2.1, .int g.2.2.2.2.2.2.2.2.2.2.2.2.2.2.2.2.2.2.2.2.2.2.2.2.2.2.2.2.1, .int g.2.2.2.2.2.2.2.2.2.2.2.2.2.2.2.2.2.2.2.2.2.2.2.2.2.2.2.2.2])), ((a 1), .inr (3, [.ref (a 2)])), ((a 2), .inr (5, [.ref (a 3), .ref (a 4), .int g.2.2.1, .int g.2.2.2.1])), ((a 3), .inl (cI, 6, .inl g.1)), ((a 4), .inl (cI, 6, .inl g.2.1)), ((a 5), .inr (0, [.int g.2.2.2.2.1, .int g.2.2.2.2.2.1, .int g.2.2.2.2.2.2.1, .int g.2.2.2.2.2.2.2.1])), ((a 6), .inr (0, [.int g.2.2.2.2.2.2.2.2.1, .int g.2.2.2.2.2.2.2.2.2.1, .int g.2.2.2.2.2.2.2.2.2.2.1, .int g.2.2.2.2.2.2.2.2.2.2.2.1])), ((a 7), .inr (5, [.ref (a 8), .ref (a 9), .int g.2.2.2.2.2.2.2.2.2.2.2.2.2.2.1, .int g.2.2.2.2.2.2.2.2.2.2.2.2.2.2.2.1])), ((a 8), .inl (cI, 106, .inl g.2.2.2.2.2.2.2.2.2.2.2.2.1)), ((a 9), .inl (cI, 106, .inl g.2.2.2.2.2.2.2.2.2.2.2.2.2.1)), ((a 10), .inr (5, [.ref (a 11), .ref (a 12), .int g.2.2.2.2.2.2.2.2.2.2.2.2.2.2.2.2.2.2.1, .int g.2.2.2.2.2.2.2.2.2.2.2.2.2.2.2.2.2.2.2.1])), ((a 11), .inl (cI, 400, .inl g.2.2.2.2.2.2.2.2.2.2.2.2.2.2.2.2.1)), ((a 12), .inl (cI, 400, .inl g.2.2.2.2.2.2.2.2.2.2.2.2.2.2.2.2.2.1)), ((a 13), .inr (6, [.ref (a 14), .int g.2.2.2.2.2.2.2.2.2.2.2.2.2.2.2.2.2.2.2.2.2.1, .int g.2.2.2.2.2.2.2.2.2.2.2.2.2.2.2.2.2.2.2.2.2.2.1])), ((a 14), .inl (cI, 96, .inl g.2.2.2.2.2.2.2.2.2.2.2.2.2.2.2.2.2.2.2.2.1)), ((a 15), .inl (cI, 6, .inl g.2.2.2.2.2.2.2.2.2.2.2.2.2.2.2.2.2.2.2.2.2.2.2.1))] rfl rfl (nW := 34) rfl (by decide +kernel) (fun H locs hP hD hS => ?_)
  obtain ⟨q3, hq3, hf⟩ := ob hf
  refine cl_WV (W1 := ([(t0, .inr (7, [.ref t1, .ref t2, .ref q3.2.1, .ref q3.2.2.1])), (t1, .inr (2, [.ref q3.2.2.2.1, .ref q3.2.2.2.2.1, .ref q3.2.2.2.2.2.1, .ref q3.2.2.2.2.2.2.1, .int q3.2.2.2.2.2.2.2]))] ++ w_gr cI cC nw a g ++ w_gr cI cC sp o q2.2)) (As := [.int q2.1]) (rest := []) hF hP hD hS (c_X7_keepIfDone t0 t1 t2 q2.1 nw sp yl ys yt yo yn q3 hq3) (cwV 1 hts gX7_grind_X7_keepIfDone rfl rfl rfl (by decide +kernel) ⟨(Nat.le_of_ble_eq_true rfl), (Nat.le_of_ble_eq_true rfl)⟩) [0, 1] rfl (by decide +kernel) (va_recv hK hP (ci := 7) (q0 := 0) rfl rfl) rfl rfl hl.1 (Nat.le_of_ble_eq_true rfl) dX7_grind_10 ⟨Nat.zero_le _, Nat.zero_le _⟩ (hA2 [t0, t1] rfl rfl) [2, 3, 4, 5, 6, 7, 8, 9, 10, 11, 12, 13, 14, 15, 16, 17, 18, 19, 20, 21, 22, 23, 24, 25, 26, 27, 28, 29, 30, 31, 32, 33] rfl [(nw, .inr (1, [.ref (a 1), .ref (a 5), .ref (a 6), .ref (a 7), .ref (a 10), .ref (a 13), .ref (a 15), .int g.2.2.2.2.2.2.2.2.2.2.2.2.2.2.2.2.2.2.2.2.2.2.2.2.1, .int g.2.2.2.2.2.2.2.2.2.2.2.2.2.2.2.2.2.2.2.2.2.2.2.2.2.1, .int g.2.2.2.2.2.2.2.2.2.2.2.2.2.2.2.2.2.2.2.2.2.2.2.2.2.2.1, .int g.2.2.2.2.2.2.2.2.2.2.2.2.2.2.2.2.2.2.2.2.2.2.2.2.2.2.2.1, .int g.2.2.2.2.2.2.2.2.2.2.2.2.2.2.2.2.2.2.2.2.2.2.2.2.2.2.2.2.1, .int g.2.2.2.2.2.2.2.2.2.2.2.2.2.2.2.2.2.2.2.2.2.2.2.2.2.2.2.2.2])), ((a 1), .inr (3, [.ref (a 2)])), ((a 2), .inr (5, [.ref (a 3), .ref (a 4), .int g.2.2.1, .int g.2.2.2.1])), ((a 3), .inl (cI, 6, .inl g.1)), ((a 4), .inl (cI, 6, .inl g.2.1)), ((a 5), .inr (0, [.int g.2.2.2.2.1, .int g.2.2.2.2.2.1, .int g.2.2.2.2.2.2.1, .int g.2.2.2.2.2.2.2.1])), ((a 6), .inr (0, [.int g.2.2.2.2.2.2.2.2.1, .int g.2.2.2.2.2.2.2.2.2.1, .int g.2.2.2.2.2.2.2.2.2.2.1, .int g.2.2.2.2.2.2.2.2.2.2.2.1])), ((a 7), .inr (5, [.ref (a 8), .ref (a 9), .int g.2.2.2.2.2.2.2.2.2.2.2.2.2.2.1, .int g.2.2.2.2.2.2.2.2.2.2.2.2.2.2.2.1])), ((a 8), .inl (cI, 106, .inl g.2.2.2.2.2.2.2.2.2.2.2.2.1)), ((a 9), .inl (cI, 106, .inl g.2.2.2.2.2.2.2.2.2.2.2.2.2.1)), ((a 10), .inr (5, [.ref (a 11), .ref (a 12), .int g.2.2.2.2.2.2.2.2.2.2.2.2.2.2.2.2.2.2.1, .int g.2.2.2.2.2.2.2.2.2.2.2.2.2.2.2.2.2.2.2.1])), ((a 11), .inl (cI, 400, .inl g.2.2.2.2.2.2.2.2.2.2.2.2.2.2.2.2.1)), ((a 12), .inl (cI, 400, .inl g.2.2.2.2.2.2.2.2.2.2.2.2.2.2.2.2.2.1)), ((a 13), .inr (6, [.ref (a 14), .int g.2.2.2.2.2.2.2.2.2.2.2.2.2.2.2.2.2.2.2.2.2.1, .int g.2.2.2.2.2.2.2.2.2.2.2.2.2.2.2.2.2.2.2.2.2.2.1])), ((a 14), .inl (cI, 96, .inl g.2.2.2.2.2.2.2.2.2.2.2.2.2.2.2.2.2.2.2.2.1)), ((a 15), .inl (cI, 6, .inl g.2.2.2.2.2.2.2.2.2.2.2.2.2.2.2.2.2.2.2.2.2.2.2.1)), (sp, .inr (1, [.ref (o 1), .ref (o 5), .ref (o 6), .ref (o 7), .ref (o 10), .ref (o 13), .ref (o 15), .int q2.2.2.2.2.2.2.2.2.2.2.2.2.2.2.2.2.2.2.2.2.2.2.2.2.2.1, .int q2.2.2.2.2.2.2.2.2.2.2.2.2.2.2.2.2.2.2.2.2.2.2.2.2.2.2.1, .int q2.2.2.2.2.2.2.2.2.2.2.2.2.2.2.2.2.2.2.2.2.2.2.2.2.2.2.2.1, .int q2.2.2.2.2.2.2.2.2.2.2.2.2.2.2.2.2.2.2.2.2.2.2.2.2.2.2.2.2.1, .int q2.2.2.2.2.2.2.2.2.2.2.2.2.2.2.2.2.2.2.2.2.2.2.2.2.2.2.2.2.2.1, .int q2.2.2.2.2.2.2.2.2.2.2.2.2.2.2.2.2.2.2.2.2.2.2.2.2.2.2.2.2.2.2])), ((o 1), .inr (3, [.ref (o 2)])), ((o 2), .inr (5, [.ref (o 3), .ref (o 4), .int q2.2.2.2.1, .int q2.2.2.2.2.1])), ((o 3), .inl (cI, 6, .inl q2.2.1)), ((o 4), .inl (cI, 6, .inl q2.2.2.1)), ((o 5), .inr (0, [.int q2.2.2.2.2.2.1, .int q2.2.2.2.2.2.2.1, .int q2.2.2.2.2.2.2.2.1, .int q2.2.2.2.2.2.2.2.2.1])), ((o 6), .inr (0, [.int q2.2.2.2.2.2.2.2.2.2.1, .int q2.2.2.2.2.2.2.2.2.2.2.1, .int q2.2.2.2.2.2.2.2.2.2.2.2.1, .int q2.2.2.2.2.2.2.2.2.2.2.2.2.1])), ((o 7), .inr (5, [.ref (o 8), .ref (o 9), .int q2.2.2.2.2.2.2.2.2.2.2.2.2.2.2.2.1, .int q2.2.2.2.2.2.2.2.2.2.2.2.2.2.2.2.2.1])), ((o 8), .inl (cI, 106, .inl q2.2.2.2.2.2.2.2.2.2.2.2.2.2.1)), ((o 9), .inl (cI, 106, .inl q2.2.2.2.2.2.2.2.2.2.2.2.2.2.2.1)), ((o 10), .inr (5, [.ref (o 11), .ref (o 12), .int q2.2.2.2.2.2.2.2.2.2.2.2.2.2.2.2.2.2.2.2.1, .int q2.2.2.2.2.2.2.2.2.2.2.2.2.2.2.2.2.2.2.2.2.1])), ((o 11), .inl (cI, 400, .inl q2.2.2.2.2.2.2.2.2.2.2.2.2.2.2.2.2.2.1)), ((o 12), .inl (cI, 400, .inl q2.2.2.2.2.2.2.2.2.2.2.2.2.2.2.2.2.2.2.1)), ((o 13), .inr (6, [.ref (o 14), .int q2.2.2.2.2.2.2.2.2.2.2.2.2.2.2.2.2.2.2.2.2.2.2.1, .int q2.2.2.2.2.2.2.2.2.2.2.2.2.2.2.2.2.2.2.2.2.2.2.2.1])), ((o 14), .inl (cI, 96, .inl q2.2.2.2.2.2.2.2.2.2.2.2.2.2.2.2.2.2.2.2.2.2.1)), ((o 15), .inl (cI, 6, .inl q2.2.2.2.2.2.2.2.2.2.2.2.2.2.2.2.2.2.2.2.2.2.2.2.2.1))] rfl rfl (nW := 34) rfl (by decide +kernel) (fun H locs hP hD hS => ?_)
  obtain rfl := Option.some.inj hf
  exact ret 13 ls _ H locs dX7_grind_13 rfl rfl hP hS
abbrev rmX7_dial : Room := { frames := 5, cells := 0, slots := 0, locals := 143 }
set_option maxHeartbeats 4000000 in
set_option maxRecDepth 100000 in
theorem c_X7_dial (t0 : Nat) (t1 : Nat) (t2 : Nat) (a : Nat → Nat) (o : Nat → Nat) (x1 : Int32) (x2 : Int32) (nw : Nat) (sp : Nat) (yl : Nat) (ys : Nat) (yt : Nat) (yo : Nat) (yn : Int32) (g : Gr) (go : Gr) (R : Int32 × Nat × Nat × Nat × Nat × Nat × Nat × Int32 × Gr) (hf : f_X7_dial x1 x2 nw sp yl ys yt yo yn g go = some R) : WrI l yX7_dial wsX7_dial rmX7_dial D cI cC ([(t0, .inr (7, [.ref t1, .ref t2, .ref nw, .ref sp])), (t1, .inr (2, [.ref yl, .ref ys, .ref yt, .ref yo, .int yn]))] ++ w_gr cI cC nw a g ++ w_gr cI cC sp o go) ([(t0, .inr (7, [.ref t1, .ref t2, .ref R.2.1, .ref R.2.2.1])), (t1, .inr (2, [.ref R.2.2.2.1, .ref R.2.2.2.2.1, .ref R.2.2.2.2.2.1, .ref R.2.2.2.2.2.2.1, .int R.2.2.2.2.2.2.2.1]))] ++ w_gr cI cC nw a g ++ w_gr cI cC sp o R.2.2.2.2.2.2.2.2) [.ref t0, .int x1, .int x2] R.1 := by
  refine en_W (cc := cX7_dial) (n := 3) (by decide) rfl (Nat.le_of_ble_eq_true rfl) ?_
  intro p e s m args below meth c Q AA ls hx hb hml hown hts hK hN hP hD hS hl ret
  have hown : s.vm.findClass RX7 = some m.cls := hown
  have hF : FX p m c cX7_dial 3 s args wsX7_dial RX7 D cI cC := ⟨⟨hx, hb, hml, hown, hts⟩, hK, hN⟩
  have hl : lv_has ls 3 [(0, .ref t0), (1, .int x1), (2, .int x2)] := hl
  rw [f_X7_dial] at hf
  obtain ⟨H, hH⟩ : ∃ z : Heap, z = s.heap := ⟨_, rfl⟩
  obtain ⟨locs, hL⟩ : ∃ z : List Loc, z = [] := ⟨_, rfl⟩
  replace hP := hH ▸ hP
  replace hS : va_S AA s.heap H locs := by rw [hH, hL]; exact hS
  suffices hgoal : W p l e rmX7_dial s m args below meth c H locs 0 0 Q (F0 m 0 ls []) by rw [hH, hL] at hgoal; exact hgoal
  clear hH hL
  refine lv_aload_n hx hb dX7_dial_0 rfl (lv_at hl 0 rfl) ?_
  refine lv_aload_n hx hb dX7_dial_1 rfl (lv_at hl 0 rfl) ?_
  obtain ⟨q1, hq1, hf⟩ := ob hf
  refine cl_WAV (W1 := ([(t0, .inr (7, [.ref t1, .ref t2, .ref nw, .ref sp])), (t1, .inr (2, [.ref yl, .ref ys, .ref yt, .ref yo, .int yn]))] ++ w_gr cI cC nw a g ++ w_gr cI cC sp o q1)) (As := []) (rest := [.ref t0]) hF hP hD hS (c_X7_spareLikeNow t0 t1 t2 a o nw sp g go q1 hq1) (cwV 0 hts gX7_dial_X7_spareLikeNow rfl rfl rfl (by decide +kernel) ⟨(Nat.le_of_ble_eq_true rfl), (Nat.le_of_ble_eq_true rfl)⟩) [0, 2, 3, 4, 5, 6, 7, 8, 9, 10, 11, 12, 13, 14, 15, 16, 17, 18, 19, 20, 21, 22, 23, 24, 25, 26, 27, 28, 29, 30, 31, 32, 33] rfl (by decide +kernel) (va_recv hK hP (ci := 7) (q0 := 0) rfl rfl) rfl rfl hl.1 (Nat.le_of_ble_eq_true rfl) dX7_dial_2 ⟨Nat.zero_le _, Nat.zero_le _⟩ (hA2 [t0, nw, (a 1), (a 2), (a 3), (a 4), (a 5), (a 6), (a 7), (a 8), (a 9), (a 10), (a 11), (a 12), (a 13), (a 14), (a 15), sp, (o 1), (o 2), (o 3), (o 4), (o 5), (o 6), (o 7), (o 8), (o 9), (o 10), (o 11), (o 12), (o 13), (o 14), (o 15)] rfl rfl) [1] rfl [(t1, .inr (2, [.ref yl, .ref ys, .ref yt, .ref yo, .int yn]))] rfl rfl (nW := 34) rfl (by decide +kernel) (fun H locs hP hD hS => ?_)
  refine lv_iload_n hx hb dX7_dial_5 rfl (lv_at hl 1 rfl) ?_
  refine lv_iload_n hx hb dX7_dial_6 rfl (lv_at hl 2 rfl) ?_
  obtain ⟨q2, hq2, hf⟩ := ob hf
  refine cl_WV (W1 := ([(t0, .inr (7, [.ref t1, .ref t2, .ref nw, .ref sp])), (t1, .inr (2, [.ref yl, .ref ys, .ref yt, .ref yo, .int yn]))] ++ w_gr cI cC nw a g ++ w_gr cI cC sp o q2.2)) (As := [.int x1, .int x2]) (rest := [.ref t0]) hF hP hD hS (C_X1_turnDial sp o x1 x2 q1 q2 hq2) (cwV 2 hts gX7_dial_X1_turnDial rfl rfl rfl (by decide +kernel) ⟨(Nat.le_of_ble_eq_true rfl), (Nat.le_of_ble_eq_true rfl)⟩) [18, 19, 20, 21, 22, 23, 24, 25, 26, 27, 28, 29, 30, 31, 32, 33] rfl (by decide +kernel) (va_recv hK hP (ci := 1) (q0 := 18) rfl rfl) rfl rfl hl.1 (Nat.le_of_ble_eq_true rfl) dX7_dial_7 ⟨Nat.zero_le _, Nat.zero_le _⟩ (hA2 [sp, (o 1), (o 2), (o 3), (o 4), (o 5), (o 6), (o 7), (o 8), (o 9), (o 10), (o 11), (o 12), (o 13), (o 14), (o 15)] rfl rfl) [0, 1, 2, 3, 4, 5, 6, 7, 8, 9, 10, 11, 12, 13, 14, 15, 16, 17] rfl [(t0, .inr (7, [.ref t1, .ref t2, .ref nw, .ref sp])), (t1, .inr (2, [.ref yl, .ref ys, .ref yt, .ref yo, .int yn])), (nw, .inr (1, [.ref (a 1), .ref (a 5), .ref (a 6), .ref (a 7), .ref (a 10), .ref (a 13), .ref (a 15), .int g.2.2.2.2.2.2.2.2.2.2.2.2.2.2.2.2.2.2.2.2.2.2.2.2.1, .int g.2.2.2.2.2.2.2.2.2.2.2.2.2.2.2.2.2.2.2.2.2.2.2.2.2.1, .int g.2.2.2.2.2.2.2.2.2.2.2.2.2.2.2.2.2.2.2.2.2.2.2.2.2.2.1, .int g.2.2.2.2.2.2.2.2.2.2.2.2.2.2.2.2.2.2.2.2.2.2.2.2.2.2.2.1, .int g.2.2.2.2.2.2.2.2.2.2.2.2.2.2.2.2.2.2.2.2.2.2.2.2.2.2.2.2.1, .int g.2.2.2.2.2.2.2.2.2.2.2.2.2.2.2.2.2.2.2.2.2.2.2.2.2.2.2.2.2])), ((a 1), .inr (3, [.ref (a 2)])), ((a 2), .inr (5, [.ref (a 3), .ref (a 4), .int g.2.2.1, .int g.2.2.2.1])), ((a 3), .inl (cI, 6, .inl g.1)), ((a 4), .inl (cI, 6, .inl g.2.1)), ((a 5), .inr (0, [.int g.2.2.2.2.1, .int g.2.2.2.2.2.1, .int g.2.2.2.2.2.2.1, .int g.2.2.2.2.2.2.2.1])), ((a 6), .inr (0, [.int g.2.2.2.2.2.2.2.2.1, .int g.2.2.2.2.2.2.2.2.2.1, .int g.2.2.2.2.2.2.2.2.2.2.1, .int g.2.2.2.2.2.2.2.2.2.2.2.1])), ((a 7), .inr (5, [.ref (a 8), .ref (a 9), .int g.2.2.2.2.2.2.2.2.2.2.2.2.2.2.1, .int g.2.2.2.2.2.2.2.2.2.2.2.2.2.2.2.1])), ((a 8), .inl (cI, 106, .inl g.2.2.2.2.2.2.2.2.2.2.2.2.1)), ((a 9), .inl (cI, 106, .inl g.2.2.2.2.2.2.2.2.2.2.2.2.2.1)), ((a 10), .inr (5, [.ref (a 11), .ref (a 12), .int g.2.2.2.2.2.2.2.2.2.2.2.2.2.2.2.2.2.2.1, .int g.2.2.2.2.2.2.2.2.2.2.2.2.2.2.2.2.2.2.2.1])), ((a 11), .inl (cI, 400, .inl g.2.2.2.2.2.2.2.2.2.2.2.2.2.2.2.2.1)), ((a 12), .inl (cI, 400, .inl g.2.2.2.2.2.2.2.2.2.2.2.2.2.2.2.2.2.1)), ((a 13), .inr (6, [.ref (a 14), .int g.2.2.2.2.2.2.2.2.2.2.2.2.2.2.2.2.2.2.2.2.2.1, .int g.2.2.2.2.2.2.2.2.2.2.2.2.2.2.2.2.2.2.2.2.2.2.1])), ((a 14), .inl (cI, 96, .inl g.2.2.2.2.2.2.2.2.2.2.2.2.2.2.2.2.2.2.2.2.1)), ((a 15), .inl (cI, 6, .inl g.2.2.2.2.2.2.2.2.2.2.2.2.2.2.2.2.2.2.2.2.2.2.2.1))] rfl rfl (nW := 34) rfl (by decide +kernel) (fun H locs hP hD hS => ?_)
  obtain ⟨q3, hq3, hf⟩ := ob hf
  refine cl_WV (W1 := ([(t0, .inr (7, [.ref t1, .ref t2, .ref q3.2.1, .ref q3.2.2.1])), (t1, .inr (2, [.ref q3.2.2.2.1, .ref q3.2.2.2.2.1, .ref q3.2.2.2.2.2.1, .ref q3.2.2.2.2.2.2.1, .int q3.2.2.2.2.2.2.2]))] ++ w_gr cI cC nw a g ++ w_gr cI cC sp o q2.2)) (As := [.int q2.1]) (rest := []) hF hP hD hS (c_X7_keepIfDone t0 t1 t2 q2.1 nw sp yl ys yt yo yn q3 hq3) (cwV 1 hts gX7_dial_X7_keepIfDone rfl rfl rfl (by decide +kernel) ⟨(Nat.le_of_ble_eq_true rfl), (Nat.le_of_ble_eq_true rfl)⟩) [0, 1] rfl (by decide +kernel) (va_recv hK hP (ci := 7) (q0 := 0) rfl rfl) rfl rfl hl.1 (Nat.le_of_ble_eq_true rfl) dX7_dial_10 ⟨Nat.zero_le _, Nat.zero_le _⟩ (hA2 [t0, t1] rfl rfl) [2, 3, 4, 5, 6, 7, 8, 9, 10, 11, 12, 13, 14, 15, 16, 17, 18, 19, 20, 21, 22, 23, 24, 25, 26, 27, 28, 29, 30, 31, 32, 33] rfl [(nw, .inr (1, [.ref (a 1), .ref (a 5), .ref (a 6), .ref (a 7), .ref (a 10), .ref (a 13), .ref (a 15), .int g.2.2.2.2.2.2.2.2.2.2.2.2.2.2.2.2.2.2.2.2.2.2.2.2.1, .int g.2.2.2.2.2.2.2.2.2.2.2.2.2.2.2.2.2.2.2.2.2.2.2.2.2.1, .int g.2.2.2.2.2.2.2.2.2.2.2.2.2.2.2.2.2.2.2.2.2.2.2.2.2.2.1, .int g.2.2.2.2.2.2.2.2.2.2.2.2.2.2.2.2.2.2.2.2.2.2.2.2.2.2.2.1, .int g.2.2.2.2.2.2.2.2.2.2.2.2.2.2.2.2.2.2.2.2.2.2.2.2.2.2.2.2.1, .int g.2.2.2.2.2.2.2.2.2.2.2.2.2.2.2.2.2.2.2.2.2.2.2.2.2.2.2.2.2])), ((a 1), .inr (3, [.ref (a 2)])), ((a 2), .inr (5, [.ref (a 3), .ref (a 4), .int g.2.2.1, .int g.2.2.2.1])), ((a 3), .inl (cI, 6, .inl g.1)), ((a 4), .inl (cI, 6, .inl g.2.1)), ((a 5), .inr (0, [.int g.2.2.2.2.1, .int g.2.2.2.2.2.1, .int g.2.2.2.2.2.2.1, .int g.2.2.2.2.2.2.2.1])), ((a 6), .inr (0, [.int g.2.2.2.2.2.2.2.2.1, .int g.2.2.2.2.2.2.2.2.2.1, .int g.2.2.2.2.2.2.2.2.2.2.1, .int g.2.2.2.2.2.2.2.2.2.2.2.1])), ((a 7), .inr (5, [.ref (a 8), .ref (a 9), .int g.2.2.2.2.2.2.2.2.2.2.2.2.2.2.1, .int g.2.2.2.2.2.2.2.2.2.2.2.2.2.2.2.1])), ((a 8), .inl (cI, 106, .inl g.2.2.2.2.2.2.2.2.2.2.2.2.1)), ((a 9), .inl (cI, 106, .inl g.2.2.2.2.2.2.2.2.2.2.2.2.2.1)), ((a 10), .inr (5, [.ref (a 11), .ref (a 12), .int g.2.2.2.2.2.2.2.2.2.2.2.2.2.2.2.2.2.2.1, .int g.2.2.2.2.2.2.2.2.2.2.2.2.2.2.2.2.2.2.2.1])), ((a 11), .inl (cI, 400, .inl g.2.2.2.2.2.2.2.2.2.2.2.2.2.2.2.2.1)), ((a 12), .inl (cI, 400, .inl g.2.2.2.2.2.2.2.2.2.2.2.2.2.2.2.2.2.1)), ((a 13), .inr (6, [.ref (a 14), .int g.2.2.2.2.2.2.2.2.2.2.2.2.2.2.2.2.2.2.2.2.2.1, .int g.2.2.2.2.2.2.2.2.2.2.2.2.2.2.2.2.2.2.2.2.2.2.1])), ((a 14), .inl (cI, 96, .inl g.2.2.2.2.2.2.2.2.2.2.2.2.2.2.2.2.2.2.2.2.1)), ((a 15), .inl (cI, 6, .inl g.2.2.2.2.2.2.2.2.2.2.2.2.2.2.2.2.2.2.2.2.2.2.2.1)), (sp, .inr (1, [.ref (o 1), .ref (o 5), .ref (o 6), .ref (o 7), .ref (o 10), .ref (o 13), .ref (o 15), .int q2.2.2.2.2.2.2.2.2.2.2.2.2.2.2.2.2.2.2.2.2.2.2.2.2.2.1, .int q2.2.2.2.2.2.2.2.2.2.2.2.2.2.2.2.2.2.2.2.2.2.2.2.2.2.2.1, .int q2.2.2.2.2.2.2.2.2.2.2.2.2.2.2.2.2.2.2.2.2.2.2.2.2.2.2.2.1, .int q2.2.2.2.2.2.2.2.2.2.2.2.2.2.2.2.2.2.2.2.2.2.2.2.2.2.2.2.2.1, .int q2.2.2.2.2.2.2.2.2.2.2.2.2.2.2.2.2.2.2.2.2.2.2.2.2.2.2.2.2.2.1, .int q2.2.2.2.2.2.2.2.2.2.2.2.2.2.2.2.2.2.2.2.2.2.2.2.2.2.2.2.2.2.2])), ((o 1), .inr (3, [.ref (o 2)])), ((o 2), .inr (5, [.ref (o 3), .ref (o 4), .int q2.2.2.2.1, .int q2.2.2.2.2.1])), ((o 3), .inl (cI, 6, .inl q2.2.1)), ((o 4), .inl (cI, 6, .inl q2.2.2.1)), ((o 5), .inr (0, [.int q2.2.2.2.2.2.1, .int q2.2.2.2.2.2.2.1, .int q2.2.2.2.2.2.2.2.1, .int q2.2.2.2.2.2.2.2.2.1])), ((o 6), .inr (0, [.int q2.2.2.2.2.2.2.2.2.2.1, .int q2.2.2.2.2.2.2.2.2.2.2.1, .int q2.2.2.2.2.2.2.2.2.2.2.2.1, .int q2.2.2.2.2.2.2.2.2.2.2.2.2.1])), ((o 7), .inr (5, [.ref (o 8), .ref (o 9), .int q2.2.2.2.2.2.2.2.2.2.2.2.2.2.2.2.1, .int q2.2.2.2.2.2.2.2.2.2.2.2.2.2.2.2.2.1])), ((o 8), .inl (cI, 106, .inl q2.2.2.2.2.2.2.2.2.2.2.2.2.2.1)), ((o 9), .inl (cI, 106, .inl q2.2.2.2.2.2.2.2.2.2.2.2.2.2.2.1)), ((o 10), .inr (5, [.ref (o 11), .ref (o 12), .int q2.2.2.2.2.2.2.2.2.2.2.2.2.2.2.2.2.2.2.2.1, .int q2.2.2.2.2.2.2.2.2.2.2.2.2.2.2.2.2.2.2.2.2.1])), ((o 11), .inl (cI, 400, .inl q2.2.2.2.2.2.2.2.2.2.2.2.2.2.2.2.2.2.1)), ((o 12), .inl (cI, 400, .inl q2.2.2.2.2.2.2.2.2.2.2.2.2.2.2.2.2.2.2.1)), ((o 13), .inr (6, [.ref (o 14), .int q2.2.2.2.2.2.2.2.2.2.2.2.2.2.2.2.2.2.2.2.2.2.2.1, .int q2.2.2.2.2.2.2.2.2.2.2.2.2.2.2.2.2.2.2.2.2.2.2.2.1])), ((o 14), .inl (cI, 96, .inl q2.2.2.2.2.2.2.2.2.2.2.2.2.2.2.2.2.2.2.2.2.2.1)), ((o 15), .inl (cI, 6, .inl q2.2.2.2.2.2.2.2.2.2.2.2.2.2.2.2.2.2.2.2.2.2.2.2.2.1))] rfl rfl (nW := 34) rfl (by decide +kernel) (fun H locs hP hD hS => ?_)
  obtain rfl := Option.some.inj hf
  exact ret 13 ls _ H locs dX7_dial_13 rfl rfl hP hS
abbrev rmX7_rest : Room := { frames := 5, cells := 0, slots := 0, locals := 143 }
set_option maxHeartbeats 4000000 in
set_option maxRecDepth 100000 in
theorem c_X7_rest (t0 : Nat) (t1 : Nat) (t2 : Nat) (a : Nat → Nat) (o : Nat → Nat) (x1 : Int32) (nw : Nat) (sp : Nat) (yl : Nat) (ys : Nat) (yt : Nat) (yo : Nat) (yn : Int32) (g : Gr) (go : Gr) (R : Int32 × Nat × Nat × Nat × Nat × Nat × Nat × Int32 × Gr) (hf : f_X7_rest x1 nw sp yl ys yt yo yn g go = some R) : WrI l yX7_rest wsX7_rest rmX7_rest D cI cC ([(t0, .inr (7, [.ref t1, .ref t2, .ref nw, .ref sp])), (t1, .inr (2, [.ref yl, .ref ys, .ref yt, .ref yo, .int yn]))] ++ w_gr cI cC nw a g ++ w_gr cI cC sp o go) ([(t0, .inr (7, [.ref t1, .ref t2, .ref R.2.1, .ref R.2.2.1])), (t1, .inr (2, [.ref R.2.2.2.1, .ref R.2.2.2.2.1, .ref R.2.2.2.2.2.1, .ref R.2.2.2.2.2.2.1, .int R.2.2.2.2.2.2.2.1]))] ++ w_gr cI cC nw a g ++ w_gr cI cC sp o R.2.2.2.2.2.2.2.2) [.ref t0, .int x1] R.1 := by
  refine en_W (cc := cX7_rest) (n := 2) (by decide) rfl (Nat.le_of_ble_eq_true rfl) ?_
  intro p e s m args below meth c Q AA ls hx hb hml hown hts hK hN hP hD hS hl ret
  have hown : s.vm.findClass RX7 = some m.cls := hown
  have hF : FX p m c cX7_rest 2 s args wsX7_rest RX7 D cI cC := ⟨⟨hx, hb, hml, hown, hts⟩, hK, hN⟩
  have hl : lv_has ls 2 [(0, .ref t0), (1, .int x1)] := hl
  rw [f_X7_rest] at hf
  obtain ⟨H, hH⟩ : ∃ z : Heap, z = s.heap := ⟨_, rfl⟩
  obtain ⟨locs, hL⟩ : ∃ z : List Loc, z = [] := ⟨_, rfl⟩
  replace hP := hH ▸ hP
  replace hS : va_S AA s.heap H locs := by rw [hH, hL]; exact hS
  suffices hgoal : W p l e rmX7_rest s m args below meth c H locs 0 0 Q (F0 m 0 ls []) by rw [hH, hL] at hgoal; exact hgoal
  clear hH hL
  refine lv_aload_n hx hb dX7_rest_0 rfl (lv_at hl 0 rfl) ?_
  refine lv_aload_n hx hb dX7_rest_1 rfl (lv_at hl 0 rfl) ?_
  obtain ⟨q1, hq1, hf⟩ := ob hf
  refine cl_WAV (W1 := ([(t0, .inr (7, [.ref t1, .ref t2, .ref nw, .ref sp])), (t1, .inr (2, [.ref yl, .ref ys, .ref yt, .ref yo, .int yn]))] ++ w_gr cI cC nw a g ++ w_gr cI cC sp o q1)) (As := []) (rest := [.ref t0]) hF hP hD hS (c_X7_spareLikeNow t0 t1 t2 a o nw sp g go q1 hq1) (cwV 0 hts gX7_rest_X7_spareLikeNow rfl rfl rfl (by decide +kernel) ⟨(Nat.le_of_ble_eq_true rfl), (Nat.le_of_ble_eq_true rfl)⟩) [0, 2, 3, 4, 5, 6, 7, 8, 9, 10, 11, 12, 13, 14, 15, 16, 17, 18, 19, 20, 21, 22, 23, 24, 25, 26, 27, 28, 29, 30, 31, 32, 33] rfl (by decide +kernel) (va_recv hK hP (ci := 7) (q0 := 0) rfl rfl) rfl rfl hl.1 (Nat.le_of_ble_eq_true rfl) dX7_rest_2 ⟨Nat.zero_le _, Nat.zero_le _⟩ (hA2 [t0, nw, (a 1), (a 2), (a 3), (a 4), (a 5), (a 6), (a 7), (a 8), (a 9), (a 10), (a 11), (a 12), (a 13), (a 14), (a 15), sp, (o 1), (o 2), (o 3), (o 4), (o 5), (o 6), (o 7), (o 8), (o 9), (o 10), (o 11), (o 12), (o 13), (o 14), (o 15)] rfl rfl) [1] rfl [(t1, .inr (2, [.ref yl, .ref ys, .ref yt, .ref yo, .int yn]))] rfl rfl (nW := 34) rfl (by decide +kernel) (fun H locs hP hD hS => ?_)
  refine lv_iload_n hx hb dX7_rest_5 rfl (lv_at hl 1 rfl) ?_
  obtain ⟨q2, hq2, hf⟩ := ob hf
  refine cl_WV (W1 := ([(t0, .inr (7, [.ref t1, .ref t2, .ref nw, .ref sp])), (t1, .inr (2, [.ref yl, .ref ys, .ref yt, .ref yo, .int yn]))] ++ w_gr cI cC nw a g ++ w_gr cI cC sp o q2.2)) (As := [.int x1]) (rest := [.ref t0]) hF hP hD hS (C_X1_letPass sp o x1 q1 q2 hq2) (cwV 1 hts gX7_rest_X1_letPass rfl rfl rfl (by decide +kernel) ⟨(Nat.le_of_ble_eq_true rfl), (Nat.le_of_ble_eq_true rfl)⟩) [18, 19, 20, 21, 22, 23, 24, 25, 26, 27, 28, 29, 30, 31, 32, 33] rfl (by decide +kernel) (va_recv hK hP (ci := 1) (q0 := 18) rfl rfl) rfl rfl hl.1 (Nat.le_of_ble_eq_true rfl) dX7_rest_6 ⟨Nat.zero_le _, Nat.zero_le _⟩ (hA2 [sp, (o 1), (o 2), (o 3), (o 4), (o 5), (o 6), (o 7), (o 8), (o 9), (o 10), (o 11), (o 12), (o 13), (o 14), (o 15)] rfl rfl) [0, 1, 2, 3, 4, 5, 6, 7, 8, 9, 10, 11, 12, 13, 14, 15, 16, 17] rfl [(t0, .inr (7, [.ref t1, .ref t2, .ref nw, .ref sp])), (t1, .inr (2, [.ref yl, .ref ys, .ref yt, .ref yo, .int yn])), (nw, .inr (1, [.ref (a 1), .ref (a 5), .ref (a 6), .ref (a 7), .ref (a 10), .ref (a 13), .ref (a 15), .int g.2.2.2.2.2.2.2.2.2.2.2.2.2.2.2.2.2.2.2.2.2.2.2.2.1, .int g.2.2.2.2.2.2.2.2.2.2.2.2.2.2.2.2.2.2.2.2.2.2.2.2.2.1, .int g.2.2.2.2.2.2.2.2.2.2.2.2.2.2.2.2.2.2.2.2.2.2.2.2.2.2.1, .int g.2.2.2.2.2.2.2.2.2.2.2.2.2.2.2.2.2.2.2.2.2.2.2.2.2.2.2.1, .int g.2.2.2.2.2.2.2.2.2.2.2.2.2.2.2.2.2.2.2.2.2.2.2.2.2.2.2.2.1, .int g.2.2.2.2.2.2.2.2.2.2.2.2.2.2.2.2.2.2.2.2.2.2.2.2.2.2.2.2.2])), ((a 1), .inr (3, [.ref (a 2)])), ((a 2), .inr (5, [.ref (a 3), .ref (a 4), .int g.2.2.1, .int g.2.2.2.1])), ((a 3), .inl (cI, 6, .inl g.1)), ((a 4), .inl (cI, 6, .inl g.2.1)), ((a 5), .inr (0, [.int g.2.2.2.2.1, .int g.2.2.2.2.2.1, .int g.2.2.2.2.2.2.1, .int g.2.2.2.2.2.2.2.1])), ((a 6), .inr (0, [.int g.2.2.2.2.2.2.2.2.1, .int g.2.2.2.2.2.2.2.2.2.1, .int g.2.2.2.2.2.2.2.2.2.2.1, .int g.2.2.2.2.2.2.2.2.2.2.2.1])), ((a 7), .inr (5, [.ref (a 8), .ref (a 9), .int g.2.2.2.2.2.2.2.2.2.2.2.2.2.2.1, .int g.2.2.2.2.2.2.2.2.2.2.2.2.2.2.2.1])), ((a 8), .inl (cI, 106, .inl g.2.2.2.2.2.2.2.2.2.2.2.2.1)), ((a 9), .inl (cI, 106, .inl g.2.2.2.2.2.2.2.2.2.2.2.2.2.1)), ((a 10), .inr (5, [.ref (a 11), .ref (a 12), .int g.2.2.2.2.2.2.2.2.2.2.2.2.2.2.2.2.2.2.1, .int g.2.2.2.2.2.2.2.2.2.2.2.2.2.2.2.2.2.2.2.1])), ((a 11), .inl (cI, 400, .inl g.2.2.2.2.2.2.2.2.2.2.2.2.2.2.2.2.1)), ((a 12), .inl (cI, 400, .inl g.2.2.2.2.2.2.2.2.2.2.2.2.2.2.2.2.2.1)), ((a 13), .inr (6, [.ref (a 14), .int g.2.2.2.2.2.2.2.2.2.2.2.2.2.2.2.2.2.2.2.2.2.1, .int g.2.2.2.2.2.2.2.2.2.2.2.2.2.2.2.2.2.2.2.2.2.2.1])), ((a 14), .inl (cI, 96, .inl g.2.2.2.2.2.2.2.2.2.2.2.2.2.2.2.2.2.2.2.2.1)), ((a 15), .inl (cI, 6, .inl g.2.2.2.2.2.2.2.2.2.2.2.2.2.2.2.2.2.2.2.2.2.2.2.1))] rfl rfl (nW := 34) rfl (by decide +kernel) (fun H locs hP hD hS => ?_)
  obtain ⟨q3, hq3, hf⟩ := ob hf
  refine cl_WV (W1 := ([(t0, .inr (7, [.ref t1, .ref t2, .ref q3.2.1, .ref q3.2.2.1])), (t1, .inr (2, [.ref q3.2.2.2.1, .ref q3.2.2.2.2.1, .ref q3.2.2.2.2.2.1, .ref q3.2.2.2.2.2.2.1, .int q3.2.2.2.2.2.2.2]))] ++ w_gr cI cC nw a g ++ w_gr cI cC sp o q2.2)) (As := [.int q2.1]) (rest := []) hF hP hD hS (c_X7_keepIfDone t0 t1 t2 q2.1 nw sp yl ys yt yo yn q3 hq3) (cwV 1 hts gX7_rest_X7_keepIfDone rfl rfl rfl (by decide +kernel) ⟨(Nat.le_of_ble_eq_true rfl), (Nat.le_of_ble_eq_true rfl)⟩) [0, 1] rfl (by decide +kernel) (va_recv hK hP (ci := 7) (q0 := 0) rfl rfl) rfl rfl hl.1 (Nat.le_of_ble_eq_true rfl) dX7_rest_9 ⟨Nat.zero_le _, Nat.zero_le _⟩ (hA2 [t0, t1] rfl rfl) [2, 3, 4, 5, 6, 7, 8, 9, 10, 11, 12, 13, 14, 15, 16, 17, 18, 19, 20, 21, 22, 23, 24, 25, 26, 27, 28, 29, 30, 31, 32, 33] rfl [(nw, .inr (1, [.ref (a 1), .ref (a 5), .ref (a 6), .ref (a 7), .ref (a 10), .ref (a 13), .ref (a 15), .int g.2.2.2.2.2.2.2.2.2.2.2.2.2.2.2.2.2.2.2.2.2.2.2.2.1, .int g.2.2.2.2.2.2.2.2.2.2.2.2.2.2.2.2.2.2.2.2.2.2.2.2.2.1, .int g.2.2.2.2.2.2.2.2.2.2.2.2.2.2.2.2.2.2.2.2.2.2.2.2.2.2.1, .int g.2.2.2.2.2.2.2.2.2.2.2.2.2.2.2.2.2.2.2.2.2.2.2.2.2.2.2.1, .int g.2.2.2.2.2.2.2.2.2.2.2.2.2.2.2.2.2.2.2.2.2.2.2.2.2.2.2.2.1, .int g.2.2.2.2.2.2.2.2.2.2.2.2.2.2.2.2.2.2.2.2.2.2.2.2.2.2.2.2.2])), ((a 1), .inr (3, [.ref (a 2)])), ((a 2), .inr (5, [.ref (a 3), .ref (a 4), .int g.2.2.1, .int g.2.2.2.1])), ((a 3), .inl (cI, 6, .inl g.1)), ((a 4), .inl (cI, 6, .inl g.2.1)), ((a 5), .inr (0, [.int g.2.2.2.2.1, .int g.2.2.2.2.2.1, .int g.2.2.2.2.2.2.1, .int g.2.2.2.2.2.2.2.1])), ((a 6), .inr (0, [.int g.2.2.2.2.2.2.2.2.1, .int g.2.2.2.2.2.2.2.2.2.1, .int g.2.2.2.2.2.2.2.2.2.2.1, .int g.2.2.2.2.2.2.2.2.2.2.2.1])), ((a 7), .inr (5, [.ref (a 8), .ref (a 9), .int g.2.2.2.2.2.2.2.2.2.2.2.2.2.2.1, .int g.2.2.2.2.2.2.2.2.2.2.2.2.2.2.2.1])), ((a 8), .inl (cI, 106, .inl g.2.2.2.2.2.2.2.2.2.2.2.2.1)), ((a 9), .inl (cI, 106, .inl g.2.2.2.2.2.2.2.2.2.2.2.2.2.1)), ((a 10), .inr (5, [.ref (a 11), .ref (a 12), .int g.2.2.2.2.2.2.2.2.2.2.2.2.2.2.2.2.2.2.1, .int g.2.2.2.2.2.2.2.2.2.2.2.2.2.2.2.2.2.2.2.1])), ((a 11), .inl (cI, 400, .inl g.2.2.2.2.2.2.2.2.2.2.2.2.2.2.2.2.1)), ((a 12), .inl (cI, 400, .inl g.2.2.2.2.2.2.2.2.2.2.2.2.2.2.2.2.2.1)), ((a 13), .inr (6, [.ref (a 14), .int g.2.2.2.2.2.2.2.2.2.2.2.2.2.2.2.2.2.2.2.2.2.1, .int g.2.2.2.2.2.2.2.2.2.2.2.2.2.2.2.2.2.2.2.2.2.2.1])), ((a 14), .inl (cI, 96, .inl g.2.2.2.2.2.2.2.2.2.2.2.2.2.2.2.2.2.2.2.2.1)), ((a 15), .inl (cI, 6, .inl g.2.2.2.2.2.2.2.2.2.2.2.2.2.2.2.2.2.2.2.2.2.2.2.1)), (sp, .inr (1, [.ref (o 1), .ref (o 5), .ref (o 6), .ref (o 7), .ref (o 10), .ref (o 13), .ref (o 15), .int q2.2.2.2.2.2.2.2.2.2.2.2.2.2.2.2.2.2.2.2.2.2.2.2.2.2.1, .int q2.2.2.2.2.2.2.2.2.2.2.2.2.2.2.2.2.2.2.2.2.2.2.2.2.2.2.1, .int q2.2.2.2.2.2.2.2.2.2.2.2.2.2.2.2.2.2.2.2.2.2.2.2.2.2.2.2.1, .int q2.2.2.2.2.2.2.2.2.2.2.2.2.2.2.2.2.2.2.2.2.2.2.2.2.2.2.2.2.1, .int q2.2.2.2.2.2.2.2.2.2.2.2.2.2.2.2.2.2.2.2.2.2.2.2.2.2.2.2.2.2.1, .int q2.2.2.2.2.2.2.2.2.2.2.2.2.2.2.2.2.2.2.2.2.2.2.2.2.2.2.2.2.2.2])), ((o 1), .inr (3, [.ref (o 2)])), ((o 2), .inr (5, [.ref (o 3), .ref (o 4), .int q2.2.2.2.1, .int q2.2.2.2.2.1])), ((o 3), .inl (cI, 6, .inl q2.2.1)), ((o 4), .inl (cI, 6, .inl q2.2.2.1)), ((o 5), .inr (0, [.int q2.2.2.2.2.2.1, .int q2.2.2.2.2.2.2.1, .int q2.2.2.2.2.2.2.2.1, .int q2.2.2.2.2.2.2.2.2.1])), ((o 6), .inr (0, [.int q2.2.2.2.2.2.2.2.2.2.1, .int q2.2.2.2.2.2.2.2.2.2.2.1, .int q2.2.2.2.2.2.2.2.2.2.2.2.1, .int q2.2.2.2.2.2.2.2.2.2.2.2.2.1])), ((o 7), .inr (5, [.ref (o 8), .ref (o 9), .int q2.2.2.2.2.2.2.2.2.2.2.2.2.2.2.2.1, .int q2.2.2.2.2.2.2.2.2.2.2.2.2.2.2.2.2.1])), ((o 8), .inl (cI, 106, .inl q2.2.2.2.2.2.2.2.2.2.2.2.2.2.1)), ((o 9), .inl (cI, 106, .inl q2.2.2.2.2.2.2.2.2.2.2.2.2.2.2.1)), ((o 10), .inr (5, [.ref (o 11), .ref (o 12), .int q2.2.2.2.2.2.2.2.2.2.2.2.2.2.2.2.2.2.2.2.1, .int q2.2.2.2.2.2.2.2.2.2.2.2.2.2.2.2.2.2.2.2.2.1])), ((o 11), .inl (cI, 400, .inl q2.2.2.2.2.2.2.2.2.2.2.2.2.2.2.2.2.2.1)), ((o 12), .inl (cI, 400, .inl q2.2.2.2.2.2.2.2.2.2.2.2.2.2.2.2.2.2.2.1)), ((o 13), .inr (6, [.ref (o 14), .int q2.2.2.2.2.2.2.2.2.2.2.2.2.2.2.2.2.2.2.2.2.2.2.1, .int q2.2.2.2.2.2.2.2.2.2.2.2.2.2.2.2.2.2.2.2.2.2.2.2.1])), ((o 14), .inl (cI, 96, .inl q2.2.2.2.2.2.2.2.2.2.2.2.2.2.2.2.2.2.2.2.2.2.1)), ((o 15), .inl (cI, 6, .inl q2.2.2.2.2.2.2.2.2.2.2.2.2.2.2.2.2.2.2.2.2.2.2.2.2.1))] rfl rfl (nW := 34) rfl (by decide +kernel) (fun H locs hP hD hS => ?_)
  obtain rfl := Option.some.inj hf
  exact ret 12 ls _ H locs dX7_rest_12 rfl rfl hP hS
abbrev rmX7_shot : Room := { frames := 5, cells := 0, slots := 0, locals := 143 }
set_option maxHeartbeats 4000000 in
set_option maxRecDepth 100000 in
theorem c_X7_shot (t0 : Nat) (t1 : Nat) (t2 : Nat) (a : Nat → Nat) (o : Nat → Nat) (nw : Nat) (sp : Nat) (yl : Nat) (ys : Nat) (yt : Nat) (yo : Nat) (yn : Int32) (g : Gr) (go : Gr) (R : Int32 × Nat × Nat × Nat × Nat × Nat × Nat × Int32 × Gr) (hf : f_X7_shot nw sp yl ys yt yo yn g go = some R) : WrI l yX7_shot wsX7_shot rmX7_shot D cI cC ([(t0, .inr (7, [.ref t1, .ref t2, .ref nw, .ref sp])), (t1, .inr (2, [.ref yl, .ref ys, .ref yt, .ref yo, .int yn]))] ++ w_gr cI cC nw a g ++ w_gr cI cC sp o go) ([(t0, .inr (7, [.ref t1, .ref t2, .ref R.2.1, .ref R.2.2.1])), (t1, .inr (2, [.ref R.2.2.2.1, .ref R.2.2.2.2.1, .ref R.2.2.2.2.2.1, .ref R.2.2.2.2.2.2.1, .int R.2.2.2.2.2.2.2.1]))] ++ w_gr cI cC nw a g ++ w_gr cI cC sp o R.2.2.2.2.2.2.2.2) [.ref t0] R.1 := by
  refine en_W (cc := cX7_shot) (n := 1) (by decide) rfl (Nat.le_of_ble_eq_true rfl) ?_
  intro p e s m args below meth c Q AA ls hx hb hml hown hts hK hN hP hD hS hl ret
  have hown : s.vm.findClass RX7 = some m.cls := hown
  have hF : FX p m c cX7_shot 1 s args wsX7_shot RX7 D cI cC := ⟨⟨hx, hb, hml, hown, hts⟩, hK, hN⟩
  have hl : lv_has ls 1 [(0, .ref t0)] := hl
  rw [f_X7_shot] at hf
  obtain ⟨H, hH⟩ : ∃ z : Heap, z = s.heap := ⟨_, rfl⟩
  obtain ⟨locs, hL⟩ : ∃ z : List Loc, z = [] := ⟨_, rfl⟩
  replace hP := hH ▸ hP
  replace hS : va_S AA s.heap H locs := by rw [hH, hL]; exact hS
  suffices hgoal : W p l e rmX7_shot s m args below meth c H locs 0 0 Q (F0 m 0 ls []) by rw [hH, hL] at hgoal; exact hgoal
  clear hH hL
  refine lv_aload_n hx hb dX7_shot_0 rfl (lv_at hl 0 rfl) ?_
  refine lv_aload_n hx hb dX7_shot_1 rfl (lv_at hl 0 rfl) ?_
  obtain ⟨q1, hq1, hf⟩ := ob hf
  refine cl_WAV (W1 := ([(t0, .inr (7, [.ref t1, .ref t2, .ref nw, .ref sp])), (t1, .inr (2, [.ref yl, .ref ys, .ref yt, .ref yo, .int yn]))] ++ w_gr cI cC nw a g ++ w_gr cI cC sp o q1)) (As := []) (rest := [.ref t0]) hF hP hD hS (c_X7_spareLikeNow t0 t1 t2 a o nw sp g go q1 hq1) (cwV 0 hts gX7_shot_X7_spareLikeNow rfl rfl rfl (by decide +kernel) ⟨(Nat.le_of_ble_eq_true rfl), (Nat.le_of_ble_eq_true rfl)⟩) [0, 2, 3, 4, 5, 6, 7, 8, 9, 10, 11, 12, 13, 14, 15, 16, 17, 18, 19, 20, 21, 22, 23, 24, 25, 26, 27, 28, 29, 30, 31, 32, 33] rfl (by decide +kernel) (va_recv hK hP (ci := 7) (q0 := 0) rfl rfl) rfl rfl hl.1 (Nat.le_of_ble_eq_true rfl) dX7_shot_2 ⟨Nat.zero_le _, Nat.zero_le _⟩ (hA2 [t0, nw, (a 1), (a 2), (a 3), (a 4), (a 5), (a 6), (a 7), (a 8), (a 9), (a 10), (a 11), (a 12), (a 13), (a 14), (a 15), sp, (o 1), (o 2), (o 3), (o 4), (o 5), (o 6), (o 7), (o 8), (o 9), (o 10), (o 11), (o 12), (o 13), (o 14), (o 15)] rfl rfl) [1] rfl [(t1, .inr (2, [.ref yl, .ref ys, .ref yt, .ref yo, .int yn]))] rfl rfl (nW := 34) rfl (by decide +kernel) (fun H locs hP hD hS => ?_)
  obtain ⟨q2, hq2, hf⟩ := ob hf
  refine cl_WV (W1 := ([(t0, .inr (7, [.ref t1, .ref t2, .ref nw, .ref sp])), (t1, .inr (2, [.ref yl, .ref ys, .ref yt, .ref yo, .int yn]))] ++ w_gr cI cC nw a g ++ w_gr cI cC sp o q2.2)) (As := []) (rest := [.ref t0]) hF hP hD hS (C_X1_makeShot sp o q1 q2 hq2) (cwV 0 hts gX7_shot_X1_makeShot rfl rfl rfl (by decide +kernel) ⟨(Nat.le_of_ble_eq_true rfl), (Nat.le_of_ble_eq_true rfl)⟩) [18, 19, 20, 21, 22, 23, 24, 25, 26, 27, 28, 29, 30, 31, 32, 33] rfl (by decide +kernel) (va_recv hK hP (ci := 1) (q0 := 18) rfl rfl) rfl rfl hl.1 (Nat.le_of_ble_eq_true rfl) dX7_shot_5 ⟨Nat.zero_le _, Nat.zero_le _⟩ (hA2 [sp, (o 1), (o 2), (o 3), (o 4), (o 5), (o 6), (o 7), (o 8), (o 9), (o 10), (o 11), (o 12), (o 13), (o 14), (o 15)] rfl rfl) [0, 1, 2, 3, 4, 5, 6, 7, 8, 9, 10, 11, 12, 13, 14, 15, 16, 17] rfl [(t0, .inr (7, [.ref t1, .ref t2, .ref nw, .ref sp])), (t1, .inr (2, [.ref yl, .ref ys, .ref yt, .ref yo, .int yn])), (nw, .inr (1, [.ref (a 1), .ref (a 5), .ref (a 6), .ref (a 7), .ref (a 10), .ref (a 13), .ref (a 15), .int g.2.2.2.2.2.2.2.2.2.2.2.2.2.2.2.2.2.2.2.2.2.2.2.2.1, .int g.2.2.2.2.2.2.2.2.2.2.2.2.2.2.2.2.2.2.2.2.2.2.2.2.2.1, .int g.2.2.2.2.2.2.2.2.2.2.2.2.2.2.2.2.2.2.2.2.2.2.2.2.2.2.1, .int g.2.2.2.2.2.2.2.2.2.2.2.2.2.2.2.2.2.2.2.2.2.2.2.2.2.2.2.1, .int g.2.2.2.2.2.2.2.2.2.2.2.2.2.2.2.2.2.2.2.2.2.2.2.2.2.2.2.2.1, .int g.2.2.2.2.2.2.2.2.2.2.2.2.2.2.2.2.2.2.2.2.2.2.2.2.2.2.2.2.2])), ((a 1), .inr (3, [.ref (a 2)])), ((a 2), .inr (5, [.ref (a 3), .ref (a 4), .int g.2.2.1, .int g.2.2.2.1])), ((a 3), .inl (cI, 6, .inl g.1)), ((a 4), .inl (cI, 6, .inl g.2.1)), ((a 5), .inr (0, [.int g.2.2.2.2.1, .int g.2.2.2.2.2.1, .int g.2.2.2.2.2.2.1, .int g.2.2.2.2.2.2.2.1])), ((a 6), .inr (0, [.int g.2.2.2.2.2.2.2.2.1, .int g.2.2.2.2.2.2.2.2.2.1, .int g.2.2.2.2.2.2.2.2.2.2.1, .int g.2.2.2.2.2.2.2.2.2.2.2.1])), ((a 7), .inr (5, [.ref (a 8), .ref (a 9), .int g.2.2.2.2.2.2.2.2.2.2.2.2.2.2.1, .int g.2.2.2.2.2.2.2.2.2.2.2.2.2.2.2.1])), ((a 8), .inl (cI, 106, .inl g.2.2.2.2.2.2.2.2.2.2.2.2.1)), ((a 9), .inl (cI, 106, .inl g.2.2.2.2.2.2.2.2.2.2.2.2.2.1)), ((a 10), .inr (5, [.ref (a 11), .ref (a 12), .int g.2.2.2.2.2.2.2.2.2.2.2.2.2.2.2.2.2.2.1, .int g.2.2.2.2.2.2.2.2.2.2.2.2.2.2.2.2.2.2.2.1])), ((a 11), .inl (cI, 400, .inl g.2.2.2.2.2.2.2.2.2.2.2.2.2.2.2.2.1)), ((a 12), .inl (cI, 400, .inl g.2.2.2.2.2.2.2.2.2.2.2.2.2.2.2.2.2.1)), ((a 13), .inr (6, [.ref (a 14), .int g.2.2.2.2.2.2.2.2.2.2.2.2.2.2.2.2.2.2.2.2.2.1, .int g.2.2.2.2.2.2.2.2.2.2.2.2.2.2.2.2.2.2.2.2.2.2.1])), ((a 14), .inl (cI, 96, .inl g.2.2.2.2.2.2.2.2.2.2.2.2.2.2.2.2.2.2.2.2.1)), ((a 15), .inl (cI, 6, .inl g.2.2.2.2.2.2.2.2.2.2.2.2.2.2.2.2.2.2.2.2.2.2.2.1))] rfl rfl (nW := 34) rfl (by decide +kernel) (fun H locs hP hD hS => ?_)
  obtain ⟨q3, hq3, hf⟩ := ob hf
  refine cl_WV (W1 := ([(t0, .inr (7, [.ref t1, .ref t2, .ref q3.2.1, .ref q3.2.2.1])), (t1, .inr (2, [.ref q3.2.2.2.1, .ref q3.2.2.2.2.1, .ref q3.2.2.2.2.2.1, .ref q3.2.2.2.2.2.2.1, .int q3.2.2.2.2.2.2.2]))] ++ w_gr cI cC nw a g ++ w_gr cI cC sp o q2.2)) (As := [.int q2.1]) (rest := []) hF hP hD hS (c_X7_keepIfDone t0 t1 t2 q2.1 nw sp yl ys yt yo yn q3 hq3) (cwV 1 hts gX7_shot_X7_keepIfDone rfl rfl rfl (by decide +kernel) ⟨(Nat.le_of_ble_eq_true rfl), (Nat.le_of_ble_eq_true rfl)⟩) [0, 1] rfl (by decide +kernel) (va_recv hK hP (ci := 7) (q0 := 0) rfl rfl) rfl rfl hl.1 (Nat.le_of_ble_eq_true rfl) dX7_shot_8 ⟨Nat.zero_le _, Nat.zero_le _⟩ (hA2 [t0, t1] rfl rfl) [2, 3, 4, 5, 6, 7, 8, 9, 10, 11, 12, 13, 14, 15, 16, 17, 18, 19, 20, 21, 22, 23, 24, 25, 26, 27, 28, 29, 30, 31, 32, 33] rfl [(nw, .inr (1, [.ref (a 1), .ref (a 5), .ref (a 6), .ref (a 7), .ref (a 10), .ref (a 13), .ref (a 15), .int g.2.2.2.2.2.2.2.2.2.2.2.2.2.2.2.2.2.2.2.2.2.2.2.2.1, .int g.2.2.2.2.2.2.2.2.2.2.2.2.2.2.2.2.2.2.2.2.2.2.2.2.2.1, .int g.2.2.2.2.2.2.2.2.2.2.2.2.2.2.2.2.2.2.2.2.2.2.2.2.2.2.1, .int g.2.2.2.2.2.2.2.2.2.2.2.2.2.2.2.2.2.2.2.2.2.2.2.2.2.2.2.1, .int g.2.2.2.2.2.2.2.2.2.2.2.2.2.2.2.2.2.2.2.2.2.2.2.2.2.2.2.2.1, .int g.2.2.2.2.2.2.2.2.2.2.2.2.2.2.2.2.2.2.2.2.2.2.2.2.2.2.2.2.2])), ((a 1), .inr (3, [.ref (a 2)])), ((a 2), .inr (5, [.ref (a 3), .ref (a 4), .int g.2.2.1, .int g.2.2.2.1])), ((a 3), .inl (cI, 6, .inl g.1)), ((a 4), .inl (cI, 6, .inl g.2.1)), ((a 5), .inr (0, [.int g.2.2.2.2.1, .int g.2.2.2.2.2.1, .int g.2.2.2.2.2.2.1, .int g.2.2.2.2.2.2.2.1])), ((a 6), .inr (0, [.int g.2.2.2.2.2.2.2.2.1, .int g.2.2.2.2.2.2.2.2.2.1, .int g.2.2.2.2.2.2.2.2.2.2.1, .int g.2.2.2.2.2.2.2.2.2.2.2.1])), ((a 7), .inr (5, [.ref (a 8), .ref (a 9), .int g.2.2.2.2.2.2.2.2.2.2.2.2.2.2.1, .int g.2.2.2.2.2.2.2.2.2.2.2.2.2.2.2.1])), ((a 8), .inl (cI, 106, .inl g.2.2.2.2.2.2.2.2.2.2.2.2.1)), ((a 9), .inl (cI, 106, .inl g.2.2.2.2.2.2.2.2.2.2.2.2.2.1)), ((a 10), .inr (5, [.ref (a 11), .ref (a 12), .int g.2.2.2.2.2.2.2.2.2.2.2.2.2.2.2.2.2.2.1, .int g.2.2.2.2.2.2.2.2.2.2.2.2.2.2.2.2.2.2.2.1])), ((a 11), .inl (cI, 400, .inl g.2.2.2.2.2.2.2.2.2.2.2.2.2.2.2.2.1)), ((a 12), .inl (cI, 400, .inl g.2.2.2.2.2.2.2.2.2.2.2.2.2.2.2.2.2.1)), ((a 13), .inr (6, [.ref (a 14), .int g.2.2.2.2.2.2.2.2.2.2.2.2.2.2.2.2.2.2.2.2.2.1, .int g.2.2.2.2.2.2.2.2.2.2.2.2.2.2.2.2.2.2.2.2.2.2.1])), ((a 14), .inl (cI, 96, .inl g.2.2.2.2.2.2.2.2.2.2.2.2.2.2.2.2.2.2.2.2.1)), ((a 15), .inl (cI, 6, .inl g.2.2.2.2.2.2.2.2.2.2.2.2.2.2.2.2.2.2.2.2.2.2.2.1)), (sp, .inr (1, [.ref (o 1), .ref (o 5), .ref (o 6), .ref (o 7), .ref (o 10), .ref (o 13), .ref (o 15), .int q2.2.2.2.2.2.2.2.2.2.2.2.2.2.2.2.2.2.2.2.2.2.2.2.2.2.1, .int q2.2.2.2.2.2.2.2.2.2.2.2.2.2.2.2.2.2.2.2.2.2.2.2.2.2.2.1, .int q2.2.2.2.2.2.2.2.2.2.2.2.2.2.2.2.2.2.2.2.2.2.2.2.2.2.2.2.1, .int q2.2.2.2.2.2.2.2.2.2.2.2.2.2.2.2.2.2.2.2.2.2.2.2.2.2.2.2.2.1, .int q2.2.2.2.2.2.2.2.2.2.2.2.2.2.2.2.2.2.2.2.2.2.2.2.2.2.2.2.2.2.1, .int q2.2.2.2.2.2.2.2.2.2.2.2.2.2.2.2.2.2.2.2.2.2.2.2.2.2.2.2.2.2.2])), ((o 1), .inr (3, [.ref (o 2)])), ((o 2), .inr (5, [.ref (o 3), .ref (o 4), .int q2.2.2.2.1, .int q2.2.2.2.2.1])), ((o 3), .inl (cI, 6, .inl q2.2.1)), ((o 4), .inl (cI, 6, .inl q2.2.2.1)), ((o 5), .inr (0, [.int q2.2.2.2.2.2.1, .int q2.2.2.2.2.2.2.1, .int q2.2.2.2.2.2.2.2.1, .int q2.2.2.2.2.2.2.2.2.1])), ((o 6), .inr (0, [.int q2.2.2.2.2.2.2.2.2.2.1, .int q2.2.2.2.2.2.2.2.2.2.2.1, .int q2.2.2.2.2.2.2.2.2.2.2.2.1, .int q2.2.2.2.2.2.2.2.2.2.2.2.2.1])), ((o 7), .inr (5, [.ref (o 8), .ref (o 9), .int q2.2.2.2.2.2.2.2.2.2.2.2.2.2.2.2.1, .int q2.2.2.2.2.2.2.2.2.2.2.2.2.2.2.2.2.1])), ((o 8), .inl (cI, 106, .inl q2.2.2.2.2.2.2.2.2.2.2.2.2.2.1)), ((o 9), .inl (cI, 106, .inl q2.2.2.2.2.2.2.2.2.2.2.2.2.2.2.1)), ((o 10), .inr (5, [.ref (o 11), .ref (o 12), .int q2.2.2.2.2.2.2.2.2.2.2.2.2.2.2.2.2.2.2.2.1, .int q2.2.2.2.2.2.2.2.2.2.2.2.2.2.2.2.2.2.2.2.2.1])), ((o 11), .inl (cI, 400, .inl q2.2.2.2.2.2.2.2.2.2.2.2.2.2.2.2.2.2.1)), ((o 12), .inl (cI, 400, .inl q2.2.2.2.2.2.2.2.2.2.2.2.2.2.2.2.2.2.2.1)), ((o 13), .inr (6, [.ref (o 14), .int q2.2.2.2.2.2.2.2.2.2.2.2.2.2.2.2.2.2.2.2.2.2.2.1, .int q2.2.2.2.2.2.2.2.2.2.2.2.2.2.2.2.2.2.2.2.2.2.2.2.1])), ((o 14), .inl (cI, 96, .inl q2.2.2.2.2.2.2.2.2.2.2.2.2.2.2.2.2.2.2.2.2.2.1)), ((o 15), .inl (cI, 6, .inl q2.2.2.2.2.2.2.2.2.2.2.2.2.2.2.2.2.2.2.2.2.2.2.2.2.1))] rfl rfl (nW := 34) rfl (by decide +kernel) (fun H locs hP hD hS => ?_)
  obtain rfl := Option.some.inj hf
  exact ret 11 ls _ H locs dX7_shot_11 rfl rfl hP hS
abbrev rmX7_purge : Room := { frames := 5, cells := 0, slots := 0, locals := 143 }
set_option maxHeartbeats 4000000 in
set_option maxRecDepth 100000 in
theorem c_X7_purge (t0 : Nat) (t1 : Nat) (t2 : Nat) (a : Nat → Nat) (o : Nat → Nat) (nw : Nat) (sp : Nat) (yl : Nat) (ys : Nat) (yt : Nat) (yo : Nat) (yn : Int32) (g : Gr) (go : Gr) (R : Int32 × Nat × Nat × Nat × Nat × Nat × Nat × Int32 × Gr) (hf : f_X7_purge nw sp yl ys yt yo yn g go = some R) : WrI l yX7_purge wsX7_purge rmX7_purge D cI cC ([(t0, .inr (7, [.ref t1, .ref t2, .ref nw, .ref sp])), (t1, .inr (2, [.ref yl, .ref ys, .ref yt, .ref yo, .int yn]))] ++ w_gr cI cC nw a g ++ w_gr cI cC sp o go) ([(t0, .inr (7, [.ref t1, .ref t2, .ref R.2.1, .ref R.2.2.1])), (t1, .inr (2, [.ref R.2.2.2.1, .ref R.2.2.2.2.1, .ref R.2.2.2.2.2.1, .ref R.2.2.2.2.2.2.1, .int R.2.2.2.2.2.2.2.1]))] ++ w_gr cI cC nw a g ++ w_gr cI cC sp o R.2.2.2.2.2.2.2.2) [.ref t0] R.1 := by
  refine en_W (cc := cX7_purge) (n := 1) (by decide) rfl (Nat.le_of_ble_eq_true rfl) ?_
  intro p e s m args below meth c Q AA ls hx hb hml hown hts hK hN hP hD hS hl ret
  have hown : s.vm.findClass RX7 = some m.cls := hown
  have hF : FX p m c cX7_purge 1 s args wsX7_purge RX7 D cI cC := ⟨⟨hx, hb, hml, hown, hts⟩, hK, hN⟩
  have hl : lv_has ls 1 [(0, .ref t0)] := hl
  rw [f_X7_purge] at hf
  obtain ⟨H, hH⟩ : ∃ z : Heap, z = s.heap := ⟨_, rfl⟩
  obtain ⟨locs, hL⟩ : ∃ z : List Loc, z = [] := ⟨_, rfl⟩
  replace hP := hH ▸ hP
  replace hS : va_S AA s.heap H locs := by rw [hH, hL]; exact hS
  suffices hgoal : W p l e rmX7_purge s m args below meth c H locs 0 0 Q (F0 m 0 ls []) by rw [hH, hL] at hgoal; exact hgoal
  clear hH hL
  refine lv_aload_n hx hb dX7_purge_0 rfl (lv_at hl 0 rfl) ?_
  refine lv_aload_n hx hb dX7_purge_1 rfl (lv_at hl 0 rfl) ?_
  obtain ⟨q1, hq1, hf⟩ := ob hf
  refine cl_WAV (W1 := ([(t0, .inr (7, [.ref t1, .ref t2, .ref nw, .ref sp])), (t1, .inr (2, [.ref yl, .ref ys, .ref yt, .ref yo, .int yn]))] ++ w_gr cI cC nw a g ++ w_gr cI cC sp o q1)) (As := []) (rest := [.ref t0]) hF hP hD hS (c_X7_spareLikeNow t0 t1 t2 a o nw sp g go q1 hq1) (cwV 0 hts gX7_purge_X7_spareLikeNow rfl rfl rfl (by decide +kernel) ⟨(Nat.le_of_ble_eq_true rfl), (Nat.le_of_ble_eq_true rfl)⟩) [0, 2, 3, 4, 5, 6, 7, 8, 9, 10, 11, 12, 13, 14, 15, 16, 17, 18, 19, 20, 21, 22, 23, 24, 25, 26, 27, 28, 29, 30, 31, 32, 33] rfl (by decide +kernel) (va_recv hK hP (ci := 7) (q0 := 0) rfl rfl) rfl rfl hl.1 (Nat.le_of_ble_eq_true rfl) dX7_purge_2 ⟨Nat.zero_le _, Nat.zero_le _⟩ (hA2 [t0, nw, (a 1), (a 2), (a 3), (a 4), (a 5), (a 6), (a 7), (a 8), (a 9), (a 10), (a 11), (a 12), (a 13), (a 14), (a 15), sp, (o 1), (o 2), (o 3), (o 4), (o 5), (o 6), (o 7), (o 8), (o 9), (o 10), (o 11), (o 12), (o 13), (o 14), (o 15)] rfl rfl) [1] rfl [(t1, .inr (2, [.ref yl, .ref ys, .ref yt, .ref yo, .int yn]))] rfl rfl (nW := 34) rfl (by decide +kernel) (fun H locs hP hD hS => ?_)
  obtain ⟨q2, hq2, hf⟩ := ob hf
  refine cl_WV (W1 := ([(t0, .inr (7, [.ref t1, .ref t2, .ref nw, .ref sp])), (t1, .inr (2, [.ref yl, .ref ys, .ref yt, .ref yo, .int yn]))] ++ w_gr cI cC nw a g ++ w_gr cI cC sp o q2.2)) (As := []) (rest := [.ref t0]) hF hP hD hS (C_X1_emptyChute sp o q1 q2 hq2) (cwV 0 hts gX7_purge_X1_emptyChute rfl rfl rfl (by decide +kernel) ⟨(Nat.le_of_ble_eq_true rfl), (Nat.le_of_ble_eq_true rfl)⟩) [18, 19, 20, 21, 22, 23, 24, 25, 26, 27, 28, 29, 30, 31, 32, 33] rfl (by decide +kernel) (va_recv hK hP (ci := 1) (q0 := 18) rfl rfl) rfl rfl hl.1 (Nat.le_of_ble_eq_true rfl) dX7_purge_5 ⟨Nat.zero_le _, Nat.zero_le _⟩ (hA2 [sp, (o 1), (o 2), (o 3), (o 4), (o 5), (o 6), (o 7), (o 8), (o 9), (o 10), (o 11), (o 12), (o 13), (o 14), (o 15)] rfl rfl) [0, 1, 2, 3, 4, 5, 6, 7, 8, 9, 10, 11, 12, 13, 14, 15, 16, 17] rfl [(t0, .inr (7, [.ref t1, .ref t2, .ref nw, .ref sp])), (t1, .inr (2, [.ref yl, .ref ys, .ref yt, .ref yo, .int yn])), (nw, .inr (1, [.ref (a 1), .ref (a 5), .ref (a 6), .ref (a 7), .ref (a 10), .ref (a 13), .ref (a 15), .int g.2.2.2.2.2.2.2.2.2.2.2.2.2.2.2.2.2.2.2.2.2.2.2.2.1, .int g.2.2.2.2.2.2.2.2.2.2.2.2.2.2.2.2.2.2.2.2.2.2.2.2.2.1, .int g.2.2.2.2.2.2.2.2.2.2.2.2.2.2.2.2.2.2.2.2.2.2.2.2.2.2.1, .int g.2.2.2.2.2.2.2.2.2.2.2.2.2.2.2.2.2.2.2.2.2.2.2.2.2.2.2.1, .int g.2.2.2.2.2.2.2.2.2.2.2.2.2.2.2.2.2.2.2.2.2.2.2.2.2.2.2.2.1, .int g.2.2.2.2.2.2.2.2.2.2.2.2.2.2.2.2.2.2.2.2.2.2.2.2.2.2.2.2.2])), ((a 1), .inr (3, [.ref (a 2)])), ((a 2), .inr (5, [.ref (a 3), .ref (a 4), .int g.2.2.1, .int g.2.2.2.1])), ((a 3), .inl (cI, 6, .inl g.1)), ((a 4), .inl (cI, 6, .inl g.2.1)), ((a 5), .inr (0, [.int g.2.2.2.2.1, .int g.2.2.2.2.2.1, .int g.2.2.2.2.2.2.1, .int g.2.2.2.2.2.2.2.1])), ((a 6), .inr (0, [.int g.2.2.2.2.2.2.2.2.1, .int g.2.2.2.2.2.2.2.2.2.1, .int g.2.2.2.2.2.2.2.2.2.2.1, .int g.2.2.2.2.2.2.2.2.2.2.2.1])), ((a 7), .inr (5, [.ref (a 8), .ref (a 9), .int g.2.2.2.2.2.2.2.2.2.2.2.2.2.2.1, .int g.2.2.2.2.2.2.2.2.2.2.2.2.2.2.2.1])), ((a 8), .inl (cI, 106, .inl g.2.2.2.2.2.2.2.2.2.2.2.2.1)), ((a 9), .inl (cI, 106, .inl g.2.2.2.2.2.2.2.2.2.2.2.2.2.1)), ((a 10), .inr (5, [.ref (a 11), .ref (a 12), .int g.2.2.2.2.2.2.2.2.2.2.2.2.2.2.2.2.2.2.1, .int g.2.2.2.2.2.2.2.2.2.2.2.2.2.2.2.2.2.2.2.1])), ((a 11), .inl (cI, 400, .inl g.2.2.2.2.2.2.2.2.2.2.2.2.2.2.2.2.1)), ((a 12), .inl (cI, 400, .inl g.2.2.2.2.2.2.2.2.2.2.2.2.2.2.2.2.2.1)), ((a 13), .inr (6, [.ref (a 14), .int g.2.2.2.2.2.2.2.2.2.2.2.2.2.2.2.2.2.2.2.2.2.1, .int g.2.2.2.2.2.2.2.2.2.2.2.2.2.2.2.2.2.2.2.2.2.2.1])), ((a 14), .inl (cI, 96, .inl g.2.2.2.2.2.2.2.2.2.2.2.2.2.2.2.2.2.2.2.2.1)), ((a 15), .inl (cI, 6, .inl g.2.2.2.2.2.2.2.2.2.2.2.2.2.2.2.2.2.2.2.2.2.2.2.1))] rfl rfl (nW := 34) rfl (by decide +kernel) (fun H locs hP hD hS => ?_)
  obtain ⟨q3, hq3, hf⟩ := ob hf
  refine cl_WV (W1 := ([(t0, .inr (7, [.ref t1, .ref t2, .ref q3.2.1, .ref q3.2.2.1])), (t1, .inr (2, [.ref q3.2.2.2.1, .ref q3.2.2.2.2.1, .ref q3.2.2.2.2.2.1, .ref q3.2.2.2.2.2.2.1, .int q3.2.2.2.2.2.2.2]))] ++ w_gr cI cC nw a g ++ w_gr cI cC sp o q2.2)) (As := [.int q2.1]) (rest := []) hF hP hD hS (c_X7_keepIfDone t0 t1 t2 q2.1 nw sp yl ys yt yo yn q3 hq3) (cwV 1 hts gX7_purge_X7_keepIfDone rfl rfl rfl (by decide +kernel) ⟨(Nat.le_of_ble_eq_true rfl), (Nat.le_of_ble_eq_true rfl)⟩) [0, 1] rfl (by decide +kernel) (va_recv hK hP (ci := 7) (q0 := 0) rfl rfl) rfl rfl hl.1 (Nat.le_of_ble_eq_true rfl) dX7_purge_8 ⟨Nat.zero_le _, Nat.zero_le _⟩ (hA2 [t0, t1] rfl rfl) [2, 3, 4, 5, 6, 7, 8, 9, 10, 11, 12, 13, 14, 15, 16, 17, 18, 19, 20, 21, 22, 23, 24, 25, 26, 27, 28, 29, 30, 31, 32, 33] rfl [(nw, .inr (1, [.ref (a 1), .ref (a 5), .ref (a 6), .ref (a 7), .ref (a 10), .ref (a 13), .ref (a 15), .int g.2.2.2.2.2.2.2.2.2.2.2.2.2.2.2.2.2.2.2.2.2.2.2.2.1, .int g.2.2.2.2.2.2.2.2.2.2.2.2.2.2.2.2.2.2.2.2.2.2.2.2.2.1, .int g.2.2.2.2.2.2.2.2.2.2.2.2.2.2.2.2.2.2.2.2.2.2.2.2.2.2.1, .int g.2.2.2.2.2.2.2.2.2.2.2.2.2.2.2.2.2.2.2.2.2.2.2.2.2.2.2.1, .int g.2.2.2.2.2.2.2.2.2.2.2.2.2.2.2.2.2.2.2.2.2.2.2.2.2.2.2.2.1, .int g.2.2.2.2.2.2.2.2.2.2.2.2.2.2.2.2.2.2.2.2.2.2.2.2.2.2.2.2.2])), ((a 1), .inr (3, [.ref (a 2)])), ((a 2), .inr (5, [.ref (a 3), .ref (a 4), .int g.2.2.1, .int g.2.2.2.1])), ((a 3), .inl (cI, 6, .inl g.1)), ((a 4), .inl (cI, 6, .inl g.2.1)), ((a 5), .inr (0, [.int g.2.2.2.2.1, .int g.2.2.2.2.2.1, .int g.2.2.2.2.2.2.1, .int g.2.2.2.2.2.2.2.1])), ((a 6), .inr (0, [.int g.2.2.2.2.2.2.2.2.1, .int g.2.2.2.2.2.2.2.2.2.1, .int g.2.2.2.2.2.2.2.2.2.2.1, .int g.2.2.2.2.2.2.2.2.2.2.2.1])), ((a 7), .inr (5, [.ref (a 8), .ref (a 9), .int g.2.2.2.2.2.2.2.2.2.2.2.2.2.2.1, .int g.2.2.2.2.2.2.2.2.2.2.2.2.2.2.2.1])), ((a 8), .inl (cI, 106, .inl g.2.2.2.2.2.2.2.2.2.2.2.2.1)), ((a 9), .inl (cI, 106, .inl g.2.2.2.2.2.2.2.2.2.2.2.2.2.1)), ((a 10), .inr (5, [.ref (a 11), .ref (a 12), .int g.2.2.2.2.2.2.2.2.2.2.2.2.2.2.2.2.2.2.1, .int g.2.2.2.2.2.2.2.2.2.2.2.2.2.2.2.2.2.2.2.1])), ((a 11), .inl (cI, 400, .inl g.2.2.2.2.2.2.2.2.2.2.2.2.2.2.2.2.1)), ((a 12), .inl (cI, 400, .inl g.2.2.2.2.2.2.2.2.2.2.2.2.2.2.2.2.2.1)), ((a 13), .inr (6, [.ref (a 14), .int g.2.2.2.2.2.2.2.2.2.2.2.2.2.2.2.2.2.2.2.2.2.1, .int g.2.2.2.2.2.2.2.2.2.2.2.2.2.2.2.2.2.2.2.2.2.2.1])), ((a 14), .inl (cI, 96, .inl g.2.2.2.2.2.2.2.2.2.2.2.2.2.2.2.2.2.2.2.2.1)), ((a 15), .inl (cI, 6, .inl g.2.2.2.2.2.2.2.2.2.2.2.2.2.2.2.2.2.2.2.2.2.2.2.1)), (sp, .inr (1, [.ref (o 1), .ref (o 5), .ref (o 6), .ref (o 7), .ref (o 10), .ref (o 13), .ref (o 15), .int q2.2.2.2.2.2.2.2.2.2.2.2.2.2.2.2.2.2.2.2.2.2.2.2.2.2.1, .int q2.2.2.2.2.2.2.2.2.2.2.2.2.2.2.2.2.2.2.2.2.2.2.2.2.2.2.1, .int q2.2.2.2.2.2.2.2.2.2.2.2.2.2.2.2.2.2.2.2.2.2.2.2.2.2.2.2.1, .int q2.2.2.2.2.2.2.2.2.2.2.2.2.2.2.2.2.2.2.2.2.2.2.2.2.2.2.2.2.1, .int q2.2.2.2.2.2.2.2.2.2.2.2.2.2.2.2.2.2.2.2.2.2.2.2.2.2.2.2.2.2.1, .int q2.2.2.2.2.2.2.2.2.2.2.2.2.2.2.2.2.2.2.2.2.2.2.2.2.2.2.2.2.2.2])), ((o 1), .inr (3, [.ref (o 2)])), ((o 2), .inr (5, [.ref (o 3), .ref (o 4), .int q2.2.2.2.1, .int q2.2.2.2.2.1])), ((o 3), .inl (cI, 6, .inl q2.2.1)), ((o 4), .inl (cI, 6, .inl q2.2.2.1)), ((o 5), .inr (0, [.int q2.2.2.2.2.2.1, .int q2.2.2.2.2.2.2.1, .int q2.2.2.2.2.2.2.2.1, .int q2.2.2.2.2.2.2.2.2.1])), ((o 6), .inr (0, [.int q2.2.2.2.2.2.2.2.2.2.1, .int q2.2.2.2.2.2.2.2.2.2.2.1, .int q2.2.2.2.2.2.2.2.2.2.2.2.1, .int q2.2.2.2.2.2.2.2.2.2.2.2.2.1])), ((o 7), .inr (5, [.ref (o 8), .ref (o 9), .int q2.2.2.2.2.2.2.2.2.2.2.2.2.2.2.2.1, .int q2.2.2.2.2.2.2.2.2.2.2.2.2.2.2.2.2.1])), ((o 8), .inl (cI, 106, .inl q2.2.2.2.2.2.2.2.2.2.2.2.2.2.1)), ((o 9), .inl (cI, 106, .inl q2.2.2.2.2.2.2.2.2.2.2.2.2.2.2.1)), ((o 10), .inr (5, [.ref (o 11), .ref (o 12), .int q2.2.2.2.2.2.2.2.2.2.2.2.2.2.2.2.2.2.2.2.1, .int q2.2.2.2.2.2.2.2.2.2.2.2.2.2.2.2.2.2.2.2.2.1])), ((o 11), .inl (cI, 400, .inl q2.2.2.2.2.2.2.2.2.2.2.2.2.2.2.2.2.2.1)), ((o 12), .inl (cI, 400, .inl q2.2.2.2.2.2.2.2.2.2.2.2.2.2.2.2.2.2.2.1)), ((o 13), .inr (6, [.ref (o 14), .int q2.2.2.2.2.2.2.2.2.2.2.2.2.2.2.2.2.2.2.2.2.2.2.1, .int q2.2.2.2.2.2.2.2.2.2.2.2.2.2.2.2.2.2.2.2.2.2.2.2.1])), ((o 14), .inl (cI, 96, .inl q2.2.2.2.2.2.2.2.2.2.2.2.2.2.2.2.2.2.2.2.2.2.1)), ((o 15), .inl (cI, 6, .inl q2.2.2.2.2.2.2.2.2.2.2.2.2.2.2.2.2.2.2.2.2.2.2.2.2.1))] rfl rfl (nW := 34) rfl (by decide +kernel) (fun H locs hP hD hS => ?_)
  obtain rfl := Option.some.inj hf
  exact ret 11 ls _ H locs dX7_purge_11 rfl rfl hP hS
abbrev rmX7_correct : Room := { frames := 5, cells := 0, slots := 0, locals := 143 }
set_option maxHeartbeats 4000000 in
set_option maxRecDepth 100000 in
theorem c_X7_correct (t0 : Nat) (t1 : Nat) (t2 : Nat) (a : Nat → Nat) (o : Nat → Nat) (x1 : Int32) (nw : Nat) (sp : Nat) (yl : Nat) (ys : Nat) (yt : Nat) (yo : Nat) (yn : Int32) (g : Gr) (go : Gr) (R : Int32 × Nat × Nat × Nat × Nat × Nat × Nat × Int32 × Gr) (hf : f_X7_correct x1 nw sp yl ys yt yo yn g go = some R) : WrI l yX7_correct wsX7_correct rmX7_correct D cI cC ([(t0, .inr (7, [.ref t1, .ref t2, .ref nw, .ref sp])), (t1, .inr (2, [.ref yl, .ref ys, .ref yt, .ref yo, .int yn]))] ++ w_gr cI cC nw a g ++ w_gr cI cC sp o go) ([(t0, .inr (7, [.ref t1, .ref t2, .ref R.2.1, .ref R.2.2.1])), (t1, .inr (2, [.ref R.2.2.2.1, .ref R.2.2.2.2.1, .ref R.2.2.2.2.2.1, .ref R.2.2.2.2.2.2.1, .int R.2.2.2.2.2.2.2.1]))] ++ w_gr cI cC nw a g ++ w_gr cI cC sp o R.2.2.2.2.2.2.2.2) [.ref t0, .int x1] R.1 := by
  refine en_W (cc := cX7_correct) (n := 2) (by decide) rfl (Nat.le_of_ble_eq_true rfl) ?_
  intro p e s m args below meth c Q AA ls hx hb hml hown hts hK hN hP hD hS hl ret
  have hown : s.vm.findClass RX7 = some m.cls := hown
  have hF : FX p m c cX7_correct 2 s args wsX7_correct RX7 D cI cC := ⟨⟨hx, hb, hml, hown, hts⟩, hK, hN⟩
  have hl : lv_has ls 2 [(0, .ref t0), (1, .int x1)] := hl
  rw [f_X7_correct] at hf
  obtain ⟨H, hH⟩ : ∃ z : Heap, z = s.heap := ⟨_, rfl⟩
  obtain ⟨locs, hL⟩ : ∃ z : List Loc, z = [] := ⟨_, rfl⟩
  replace hP := hH ▸ hP
  replace hS : va_S AA s.heap H locs := by rw [hH, hL]; exact hS
  suffices hgoal : W p l e rmX7_correct s m args below meth c H locs 0 0 Q (F0 m 0 ls []) by rw [hH, hL] at hgoal; exact hgoal
  clear hH hL
  refine lv_aload_n hx hb dX7_correct_0 rfl (lv_at hl 0 rfl) ?_
  refine lv_aload_n hx hb dX7_correct_1 rfl (lv_at hl 0 rfl) ?_
  obtain ⟨q1, hq1, hf⟩ := ob hf
  refine cl_WAV (W1 := ([(t0, .inr (7, [.ref t1, .ref t2, .ref nw, .ref sp])), (t1, .inr (2, [.ref yl, .ref ys, .ref yt, .ref yo, .int yn]))] ++ w_gr cI cC nw a g ++ w_gr cI cC sp o q1)) (As := []) (rest := [.ref t0]) hF hP hD hS (c_X7_spareLikeNow t0 t1 t2 a o nw sp g go q1 hq1) (cwV 0 hts gX7_correct_X7_spareLikeNow rfl rfl rfl (by decide +kernel) ⟨(Nat.le_of_ble_eq_true rfl), (Nat.le_of_ble_eq_true rfl)⟩) [0, 2, 3, 4, 5, 6, 7, 8, 9, 10, 11, 12, 13, 14, 15, 16, 17, 18, 19, 20, 21, 22, 23, 24, 25, 26, 27, 28, 29, 30, 31, 32, 33] rfl (by decide +kernel) (va_recv hK hP (ci := 7) (q0 := 0) rfl rfl) rfl rfl hl.1 (Nat.le_of_ble_eq_true rfl) dX7_correct_2 ⟨Nat.zero_le _, Nat.zero_le _⟩ (hA2 [t0, nw, (a 1), (a 2), (a 3), (a 4), (a 5), (a 6), (a 7), (a 8), (a 9), (a 10), (a 11), (a 12), (a 13), (a 14), (a 15), sp, (o 1), (o 2), (o 3), (o 4), (o 5), (o 6), (o 7), (o 8), (o 9), (o 10), (o 11), (o 12), (o 13), (o 14), (o 15)] rfl rfl) [1] rfl [(t1, .inr (2, [.ref yl, .ref ys, .ref yt, .ref yo, .int yn]))] rfl rfl (nW := 34) rfl (by decide +kernel) (fun H locs hP hD hS => ?_)
  refine lv_iload_n hx hb dX7_correct_5 rfl (lv_at hl 1 rfl) ?_
  obtain ⟨q2, hq2, hf⟩ := ob hf
  refine cl_WV (W1 := ([(t0, .inr (7, [.ref t1, .ref t2, .ref nw, .ref sp])), (t1, .inr (2, [.ref yl, .ref ys, .ref yt, .ref yo, .int yn]))] ++ w_gr cI cC nw a g ++ w_gr cI cC sp o q2.2)) (As := [.int x1]) (rest := [.ref t0]) hF hP hD hS (C_X1_correctByLatest sp o x1 q1 q2 hq2) (cwV 1 hts gX7_correct_X1_correctByLatest rfl rfl rfl (by decide +kernel) ⟨(Nat.le_of_ble_eq_true rfl), (Nat.le_of_ble_eq_true rfl)⟩) [18, 19, 20, 21, 22, 23, 24, 25, 26, 27, 28, 29, 30, 31, 32, 33] rfl (by decide +kernel) (va_recv hK hP (ci := 1) (q0 := 18) rfl rfl) rfl rfl hl.1 (Nat.le_of_ble_eq_true rfl) dX7_correct_6 ⟨Nat.zero_le _, Nat.zero_le _⟩ (hA2 [sp, (o 1), (o 2), (o 3), (o 4), (o 5), (o 6), (o 7), (o 8), (o 9), (o 10), (o 11), (o 12), (o 13), (o 14), (o 15)] rfl rfl) [0, 1, 2, 3, 4, 5, 6, 7, 8, 9, 10, 11, 12, 13, 14, 15, 16, 17] rfl [(t0, .inr (7, [.ref t1, .ref t2, .ref nw, .ref sp])), (t1, .inr (2, [.ref yl, .ref ys, .ref yt, .ref yo, .int yn])), (nw, .inr (1, [.ref (a 1), .ref (a 5), .ref (a 6), .ref (a 7), .ref (a 10), .ref (a 13), .ref (a 15), .int g.2.2.2.2.2.2.2.2.2.2.2.2.2.2.2.2.2.2.2.2.2.2.2.2.1, .int g.2.2.2.2.2.2.2.2.2.2.2.2.2.2.2.2.2.2.2.2.2.2.2.2.2.1, .int g.2.2.2.2.2.2.2.2.2.2.2.2.2.2.2.2.2.2.2.2.2.2.2.2.2.2.1, .int g.2.2.2.2.2.2.2.2.2.2.2.2.2.2.2.2.2.2.2.2.2.2.2.2.2.2.2.1, .int g.2.2.2.2.2.2.2.2.2.2.2.2.2.2.2.2.2.2.2.2.2.2.2.2.2.2.2.2.1, .int g.2.2.2.2.2.2.2.2.2.2.2.2.2.2.2.2.2.2.2.2.2.2.2.2.2.2.2.2.2])), ((a 1), .inr (3, [.ref (a 2)])), ((a 2), .inr (5, [.ref (a 3), .ref (a 4), .int g.2.2.1, .int g.2.2.2.1])), ((a 3), .inl (cI, 6, .inl g.1)), ((a 4), .inl (cI, 6, .inl g.2.1)), ((a 5), .inr (0, [.int g.2.2.2.2.1, .int g.2.2.2.2.2.1, .int g.2.2.2.2.2.2.1, .int g.2.2.2.2.2.2.2.1])), ((a 6), .inr (0, [.int g.2.2.2.2.2.2.2.2.1, .int g.2.2.2.2.2.2.2.2.2.1, .int g.2.2.2.2.2.2.2.2.2.2.1, .int g.2.2.2.2.2.2.2.2.2.2.2.1])), ((a 7), .inr (5, [.ref (a 8), .ref (a 9), .int g.2.2.2.2.2.2.2.2.2.2.2.2.2.2.1, .int g.2.2.2.2.2.2.2.2.2.2.2.2.2.2.2.1])), ((a 8), .inl (cI, 106, .inl g.2.2.2.2.2.2.2.2.2.2.2.2.1)), ((a 9), .inl (cI, 106, .inl g.2.2.2.2.2.2.2.2.2.2.2.2.2.1)), ((a 10), .inr (5, [.ref (a 11), .ref (a 12), .int g.2.2.2.2.2.2.2.2.2.2.2.2.2.2.2.2.2.2.1, .int g.2.2.2.2.2.2.2.2.2.2.2.2.2.2.2.2.2.2.2.1])), ((a 11), .inl (cI, 400, .inl g.2.2.2.2.2.2.2.2.2.2.2.2.2.2.2.2.1)), ((a 12), .inl (cI, 400, .inl g.2.2.2.2.2.2.2.2.2.2.2.2.2.2.2.2.2.1)), ((a 13), .inr (6, [.ref (a 14), .int g.2.2.2.2.2.2.2.2.2.2.2.2.2.2.2.2.2.2.2.2.2.1, .int g.2.2.2.2.2.2.2.2.2.2.2.2.2.2.2.2.2.2.2.2.2.2.1])), ((a 14), .inl (cI, 96, .inl g.2.2.2.2.2.2.2.2.2.2.2.2.2.2.2.2.2.2.2.2.1)), ((a 15), .inl (cI, 6, .inl g.2.2.2.2.2.2.2.2.2.2.2.2.2.2.2.2.2.2.2.2.2.2.2.1))] rfl rfl (nW := 34) rfl (by decide +kernel) (fun H locs hP hD hS => ?_)
  obtain ⟨q3, hq3, hf⟩ := ob hf
  refine cl_WV (W1 := ([(t0, .inr (7, [.ref t1, .ref t2, .ref q3.2.1, .ref q3.2.2.1])), (t1, .inr (2, [.ref q3.2.2.2.1, .ref q3.2.2.2.2.1, .ref q3.2.2.2.2.2.1, .ref q3.2.2.2.2.2.2.1, .int q3.2.2.2.2.2.2.2]))] ++ w_gr cI cC nw a g ++ w_gr cI cC sp o q2.2)) (As := [.int q2.1]) (rest := []) hF hP hD hS (c_X7_keepIfDone t0 t1 t2 q2.1 nw sp yl ys yt yo yn q3 hq3) (cwV 1 hts gX7_correct_X7_keepIfDone rfl rfl rfl (by decide +kernel) ⟨(Nat.le_of_ble_eq_true rfl), (Nat.le_of_ble_eq_true rfl)⟩) [0, 1] rfl (by decide +kernel) (va_recv hK hP (ci := 7) (q0 := 0) rfl rfl) rfl rfl hl.1 (Nat.le_of_ble_eq_true rfl) dX7_correct_9 ⟨Nat.zero_le _, Nat.zero_le _⟩ (hA2 [t0, t1] rfl rfl) [2, 3, 4, 5, 6, 7, 8, 9, 10, 11, 12, 13, 14, 15, 16, 17, 18, 19, 20, 21, 22, 23, 24, 25, 26, 27, 28, 29, 30, 31, 32, 33] rfl [(nw, .inr (1, [.ref (a 1), .ref (a 5), .ref (a 6), .ref (a 7), .ref (a 10), .ref (a 13), .ref (a 15), .int g.2.2.2.2.2.2.2.2.2.2.2.2.2.2.2.2.2.2.2.2.2.2.2.2.1, .int g.2.2.2.2.2.2.2.2.2.2.2.2.2.2.2.2.2.2.2.2.2.2.2.2.2.1, .int g.2.2.2.2.2.2.2.2.2.2.2.2.2.2.2.2.2.2.2.2.2.2.2.2.2.2.1, .int g.2.2.2.2.2.2.2.2.2.2.2.2.2.2.2.2.2.2.2.2.2.2.2.2.2.2.2.1, .int g.2.2.2.2.2.2.2.2.2.2.2.2.2.2.2.2.2.2.2.2.2.2.2.2.2.2.2.2.1, .int g.2.2.2.2.2.2.2.2.2.2.2.2.2.2.2.2.2.2.2.2.2.2.2.2.2.2.2.2.2])), ((a 1), .inr (3, [.ref (a 2)])), ((a 2), .inr (5, [.ref (a 3), .ref (a 4), .int g.2.2.1, .int g.2.2.2.1])), ((a 3), .inl (cI, 6, .inl g.1)), ((a 4), .inl (cI, 6, .inl g.2.1)), ((a 5), .inr (0, [.int g.2.2.2.2.1, .int g.2.2.2.2.2.1, .int g.2.2.2.2.2.2.1, .int g.2.2.2.2.2.2.2.1])), ((a 6), .inr (0, [.int g.2.2.2.2.2.2.2.2.1, .int g.2.2.2.2.2.2.2.2.2.1, .int g.2.2.2.2.2.2.2.2.2.2.1, .int g.2.2.2.2.2.2.2.2.2.2.2.1])), ((a 7), .inr (5, [.ref (a 8), .ref (a 9), .int g.2.2.2.2.2.2.2.2.2.2.2.2.2.2.1, .int g.2.2.2.2.2.2.2.2.2.2.2.2.2.2.2.1])), ((a 8), .inl (cI, 106, .inl g.2.2.2.2.2.2.2.2.2.2.2.2.1)), ((a 9), .inl (cI, 106, .inl g.2.2.2.2.2.2.2.2.2.2.2.2.2.1)), ((a 10), .inr (5, [.ref (a 11), .ref (a 12), .int g.2.2.2.2.2.2.2.2.2.2.2.2.2.2.2.2.2.2.1, .int g.2.2.2.2.2.2.2.2.2.2.2.2.2.2.2.2.2.2.2.1])), ((a 11), .inl (cI, 400, .inl g.2.2.2.2.2.2.2.2.2.2.2.2.2.2.2.2.1)), ((a 12), .inl (cI, 400, .inl g.2.2.2.2.2.2.2.2.2.2.2.2.2.2.2.2.2.1)), ((a 13), .inr (6, [.ref (a 14), .int g.2.2.2.2.2.2.2.2.2.2.2.2.2.2.2.2.2.2.2.2.2.1, .int g.2.2.2.2.2.2.2.2.2.2.2.2.2.2.2.2.2.2.2.2.2.2.1])), ((a 14), .inl (cI, 96, .inl g.2.2.2.2.2.2.2.2.2.2.2.2.2.2.2.2.2.2.2.2.1)), ((a 15), .inl (cI, 6, .inl g.2.2.2.2.2.2.2.2.2.2.2.2.2.2.2.2.2.2.2.2.2.2.2.1)), (sp, .inr (1, [.ref (o 1), .ref (o 5), .ref (o 6), .ref (o 7), .ref (o 10), .ref (o 13), .ref (o 15), .int q2.2.2.2.2.2.2.2.2.2.2.2.2.2.2.2.2.2.2.2.2.2.2.2.2.2.1, .int q2.2.2.2.2.2.2.2.2.2.2.2.2.2.2.2.2.2.2.2.2.2.2.2.2.2.2.1, .int q2.2.2.2.2.2.2.2.2.2.2.2.2.2.2.2.2.2.2.2.2.2.2.2.2.2.2.2.1, .int q2.2.2.2.2.2.2.2.2.2.2.2.2.2.2.2.2.2.2.2.2.2.2.2.2.2.2.2.2.1, .int q2.2.2.2.2.2.2.2.2.2.2.2.2.2.2.2.2.2.2.2.2.2.2.2.2.2.2.2.2.2.1, .int q2.2.2.2.2.2.2.2.2.2.2.2.2.2.2.2.2.2.2.2.2.2.2.2.2.2.2.2.2.2.2])), ((o 1), .inr (3, [.ref (o 2)])), ((o 2), .inr (5, [.ref (o 3), .ref (o 4), .int q2.2.2.2.1, .int q2.2.2.2.2.1])), ((o 3), .inl (cI, 6, .inl q2.2.1)), ((o 4), .inl (cI, 6, .inl q2.2.2.1)), ((o 5), .inr (0, [.int q2.2.2.2.2.2.1, .int q2.2.2.2.2.2.2.1, .int q2.2.2.2.2.2.2.2.1, .int q2.2.2.2.2.2.2.2.2.1])), ((o 6), .inr (0, [.int q2.2.2.2.2.2.2.2.2.2.1, .int q2.2.2.2.2.2.2.2.2.2.2.1, .int q2.2.2.2.2.2.2.2.2.2.2.2.1, .int q2.2.2.2.2.2.2.2.2.2.2.2.2.1])), ((o 7), .inr (5, [.ref (o 8), .ref (o 9), .int q2.2.2.2.2.2.2.2.2.2.2.2.2.2.2.2.1, .int q2.2.2.2.2.2.2.2.2.2.2.2.2.2.2.2.2.1])), ((o 8), .inl (cI, 106, .inl q2.2.2.2.2.2.2.2.2.2.2.2.2.2.1)), ((o 9), .inl (cI, 106, .inl q2.2.2.2.2.2.2.2.2.2.2.2.2.2.2.1)), ((o 10), .inr (5, [.ref (o 11), .ref (o 12), .int q2.2.2.2.2.2.2.2.2.2.2.2.2.2.2.2.2.2.2.2.1, .int q2.2.2.2.2.2.2.2.2.2.2.2.2.2.2.2.2.2.2.2.2.1])), ((o 11), .inl (cI, 400, .inl q2.2.2.2.2.2.2.2.2.2.2.2.2.2.2.2.2.2.1)), ((o 12), .inl (cI, 400, .inl q2.2.2.2.2.2.2.2.2.2.2.2.2.2.2.2.2.2.2.1)), ((o 13), .inr (6, [.ref (o 14), .int q2.2.2.2.2.2.2.2.2.2.2.2.2.2.2.2.2.2.2.2.2.2.2.1, .int q2.2.2.2.2.2.2.2.2.2.2.2.2.2.2.2.2.2.2.2.2.2.2.2.1])), ((o 14), .inl (cI, 96, .inl q2.2.2.2.2.2.2.2.2.2.2.2.2.2.2.2.2.2.2.2.2.2.1)), ((o 15), .inl (cI, 6, .inl q2.2.2.2.2.2.2.2.2.2.2.2.2.2.2.2.2.2.2.2.2.2.2.2.2.1))] rfl rfl (nW := 34) rfl (by decide +kernel) (fun H locs hP hD hS => ?_)
  obtain rfl := Option.some.inj hf
  exact ret 12 ls _ H locs dX7_correct_12 rfl rfl hP hS
abbrev rmX7_set : Room := { frames := 5, cells := 0, slots := 0, locals := 143 }
set_option maxHeartbeats 4000000 in
set_option maxRecDepth 100000 in
theorem c_X7_set (t0 : Nat) (t1 : Nat) (t2 : Nat) (a : Nat → Nat) (o : Nat → Nat) (x1 : Int32) (x2 : Int32) (nw : Nat) (sp : Nat) (yl : Nat) (ys : Nat) (yt : Nat) (yo : Nat) (yn : Int32) (g : Gr) (go : Gr) (R : Int32 × Nat × Nat × Nat × Nat × Nat × Nat × Int32 × Gr) (hf : f_X7_set x1 x2 nw sp yl ys yt yo yn g go = some R) : WrIS l yX7_set wsX7_set rmX7_set D cI cC ([(t0, .inr (7, [.ref t1, .ref t2, .ref nw, .ref sp])), (t1, .inr (2, [.ref yl, .ref ys, .ref yt, .ref yo, .int yn]))] ++ w_gr cI cC nw a g ++ w_gr cI cC sp o go) ([(t0, .inr (7, [.ref t1, .ref t2, .ref R.2.1, .ref R.2.2.1])), (t1, .inr (2, [.ref R.2.2.2.1, .ref R.2.2.2.2.1, .ref R.2.2.2.2.2.1, .ref R.2.2.2.2.2.2.1, .int R.2.2.2.2.2.2.2.1]))] ++ w_gr cI cC nw a g ++ w_gr cI cC sp o R.2.2.2.2.2.2.2.2) [.ref t0, .int x1, .int x2] R.1 := by
  refine en_WS (cc := cX7_set) (n := 3) (by decide) rfl (Nat.le_of_ble_eq_true rfl) ?_
  intro p e s m args below meth c Q AA ls hx hb hml hown hts hK hN hP hD hS hST hl ret
  have hown : s.vm.findClass RX7 = some m.cls := hown
  have hF : FX p m c cX7_set 3 s args wsX7_set RX7 D cI cC := ⟨⟨hx, hb, hml, hown, hts⟩, hK, hN⟩
  have hl : lv_has ls 3 [(0, .ref t0), (1, .int x1), (2, .int x2)] := hl
  rw [f_X7_set] at hf
  obtain ⟨H, hH⟩ : ∃ z : Heap, z = s.heap := ⟨_, rfl⟩
  obtain ⟨locs, hL⟩ : ∃ z : List Loc, z = [] := ⟨_, rfl⟩
  replace hP := hH ▸ hP
  replace hS : va_S AA s.heap H locs := by rw [hH, hL]; exact hS
  suffices hgoal : W p l e rmX7_set s m args below meth c H locs 0 0 Q (F0 m 0 ls []) by rw [hH, hL] at hgoal; exact hgoal
  clear hH hL
  refine lv_aload_n hx hb dX7_set_0 rfl (lv_at hl 0 rfl) ?_
  refine lv_aload_n hx hb dX7_set_1 rfl (lv_at hl 0 rfl) ?_
  obtain ⟨q1, hq1, hf⟩ := ob hf
  refine cl_WAV (W1 := ([(t0, .inr (7, [.ref t1, .ref t2, .ref nw, .ref sp])), (t1, .inr (2, [.ref yl, .ref ys, .ref yt, .ref yo, .int yn]))] ++ w_gr cI cC nw a g ++ w_gr cI cC sp o q1)) (As := []) (rest := [.ref t0]) hF hP hD hS (c_X7_spareLikeNow t0 t1 t2 a o nw sp g go q1 hq1) (cwV 0 hts gX7_set_X7_spareLikeNow rfl rfl rfl (by decide +kernel) ⟨(Nat.le_of_ble_eq_true rfl), (Nat.le_of_ble_eq_true rfl)⟩) [0, 2, 3, 4, 5, 6, 7, 8, 9, 10, 11, 12, 13, 14, 15, 16, 17, 18, 19, 20, 21, 22, 23, 24, 25, 26, 27, 28, 29, 30, 31, 32, 33] rfl (by decide +kernel) (va_recv hK hP (ci := 7) (q0 := 0) rfl rfl) rfl rfl hl.1 (Nat.le_of_ble_eq_true rfl) dX7_set_2 ⟨Nat.zero_le _, Nat.zero_le _⟩ (hA2 [t0, nw, (a 1), (a 2), (a 3), (a 4), (a 5), (a 6), (a 7), (a 8), (a 9), (a 10), (a 11), (a 12), (a 13), (a 14), (a 15), sp, (o 1), (o 2), (o 3), (o 4), (o 5), (o 6), (o 7), (o 8), (o 9), (o 10), (o 11), (o 12), (o 13), (o 14), (o 15)] rfl rfl) [1] rfl [(t1, .inr (2, [.ref yl, .ref ys, .ref yt, .ref yo, .int yn]))] rfl rfl (nW := 34) rfl (by decide +kernel) (fun H locs hP hD hS => ?_)
  refine lv_iload_n hx hb dX7_set_5 rfl (lv_at hl 1 rfl) ?_
  refine lv_iload_n hx hb dX7_set_6 rfl (lv_at hl 2 rfl) ?_
  obtain ⟨q2, hq2, hf⟩ := ob hf
  refine cl_SV (W1 := ([(t0, .inr (7, [.ref t1, .ref t2, .ref nw, .ref sp])), (t1, .inr (2, [.ref yl, .ref ys, .ref yt, .ref yo, .int yn]))] ++ w_gr cI cC nw a g ++ w_gr cI cC sp o q2.2)) (As := [.int x1, .int x2]) (rest := [.ref t0]) hF hP hD hS hST (C_X1_changeSetting sp o x1 x2 q1 q2 hq2) (cwV 2 hts gX7_set_X1_changeSetting rfl rfl rfl (by decide +kernel) ⟨(Nat.le_of_ble_eq_true rfl), (Nat.le_of_ble_eq_true rfl)⟩) [18, 19, 20, 21, 22, 23, 24, 25, 26, 27, 28, 29, 30, 31, 32, 33] rfl (by decide +kernel) (va_recv hK hP (ci := 1) (q0 := 18) rfl rfl) rfl rfl hl.1 (Nat.le_of_ble_eq_true rfl) dX7_set_7 ⟨Nat.zero_le _, Nat.zero_le _⟩ (hA2 [sp, (o 1), (o 2), (o 3), (o 4), (o 5), (o 6), (o 7), (o 8), (o 9), (o 10), (o 11), (o 12), (o 13), (o 14), (o 15)] rfl rfl) [0, 1, 2, 3, 4, 5, 6, 7, 8, 9, 10, 11, 12, 13, 14, 15, 16, 17] rfl [(t0, .inr (7, [.ref t1, .ref t2, .ref nw, .ref sp])), (t1, .inr (2, [.ref yl, .ref ys, .ref yt, .ref yo, .int yn])), (nw, .inr (1, [.ref (a 1), .ref (a 5), .ref (a 6), .ref (a 7), .ref (a 10), .ref (a 13), .ref (a 15), .int g.2.2.2.2.2.2.2.2.2.2.2.2.2.2.2.2.2.2.2.2.2.2.2.2.1, .int g.2.2.2.2.2.2.2.2.2.2.2.2.2.2.2.2.2.2.2.2.2.2.2.2.2.1, .int g.2.2.2.2.2.2.2.2.2.2.2.2.2.2.2.2.2.2.2.2.2.2.2.2.2.2.1, .int g.2.2.2.2.2.2.2.2.2.2.2.2.2.2.2.2.2.2.2.2.2.2.2.2.2.2.2.1, .int g.2.2.2.2.2.2.2.2.2.2.2.2.2.2.2.2.2.2.2.2.2.2.2.2.2.2.2.2.1, .int g.2.2.2.2.2.2.2.2.2.2.2.2.2.2.2.2.2.2.2.2.2.2.2.2.2.2.2.2.2])), ((a 1), .inr (3, [.ref (a 2)])), ((a 2), .inr (5, [.ref (a 3), .ref (a 4), .int g.2.2.1, .int g.2.2.2.1])), ((a 3), .inl (cI, 6, .inl g.1)), ((a 4), .inl (cI, 6, .inl g.2.1)), ((a 5), .inr (0, [.int g.2.2.2.2.1, .int g.2.2.2.2.2.1, .int g.2.2.2.2.2.2.1, .int g.2.2.2.2.2.2.2.1])), ((a 6), .inr (0, [.int g.2.2.2.2.2.2.2.2.1, .int g.2.2.2.2.2.2.2.2.2.1, .int g.2.2.2.2.2.2.2.2.2.2.1, .int g.2.2.2.2.2.2.2.2.2.2.2.1])), ((a 7), .inr (5, [.ref (a 8), .ref (a 9), .int g.2.2.2.2.2.2.2.2.2.2.2.2.2.2.1, .int g.2.2.2.2.2.2.2.2.2.2.2.2.2.2.2.1])), ((a 8), .inl (cI, 106, .inl g.2.2.2.2.2.2.2.2.2.2.2.2.1)), ((a 9), .inl (cI, 106, .inl g.2.2.2.2.2.2.2.2.2.2.2.2.2.1)), ((a 10), .inr (5, [.ref (a 11), .ref (a 12), .int g.2.2.2.2.2.2.2.2.2.2.2.2.2.2.2.2.2.2.1, .int g.2.2.2.2.2.2.2.2.2.2.2.2.2.2.2.2.2.2.2.1])), ((a 11), .inl (cI, 400, .inl g.2.2.2.2.2.2.2.2.2.2.2.2.2.2.2.2.1)), ((a 12), .inl (cI, 400, .inl g.2.2.2.2.2.2.2.2.2.2.2.2.2.2.2.2.2.1)), ((a 13), .inr (6, [.ref (a 14), .int g.2.2.2.2.2.2.2.2.2.2.2.2.2.2.2.2.2.2.2.2.2.1, .int g.2.2.2.2.2.2.2.2.2.2.2.2.2.2.2.2.2.2.2.2.2.2.1])), ((a 14), .inl (cI, 96, .inl g.2.2.2.2.2.2.2.2.2.2.2.2.2.2.2.2.2.2.2.2.1)), ((a 15), .inl (cI, 6, .inl g.2.2.2.2.2.2.2.2.2.2.2.2.2.2.2.2.2.2.2.2.2.2.2.1))] rfl rfl (nW := 34) rfl (by decide +kernel) (fun H locs hP hD hS => ?_)
  obtain ⟨q3, hq3, hf⟩ := ob hf
  refine cl_WV (W1 := ([(t0, .inr (7, [.ref t1, .ref t2, .ref q3.2.1, .ref q3.2.2.1])), (t1, .inr (2, [.ref q3.2.2.2.1, .ref q3.2.2.2.2.1, .ref q3.2.2.2.2.2.1, .ref q3.2.2.2.2.2.2.1, .int q3.2.2.2.2.2.2.2]))] ++ w_gr cI cC nw a g ++ w_gr cI cC sp o q2.2)) (As := [.int q2.1]) (rest := []) hF hP hD hS (c_X7_keepIfDone t0 t1 t2 q2.1 nw sp yl ys yt yo yn q3 hq3) (cwV 1 hts gX7_set_X7_keepIfDone rfl rfl rfl (by decide +kernel) ⟨(Nat.le_of_ble_eq_true rfl), (Nat.le_of_ble_eq_true rfl)⟩) [0, 1] rfl (by decide +kernel) (va_recv hK hP (ci := 7) (q0 := 0) rfl rfl) rfl rfl hl.1 (Nat.le_of_ble_eq_true rfl) dX7_set_10 ⟨Nat.zero_le _, Nat.zero_le _⟩ (hA2 [t0, t1] rfl rfl) [2, 3, 4, 5, 6, 7, 8, 9, 10, 11, 12, 13, 14, 15, 16, 17, 18, 19, 20, 21, 22, 23, 24, 25, 26, 27, 28, 29, 30, 31, 32, 33] rfl [(nw, .inr (1, [.ref (a 1), .ref (a 5), .ref (a 6), .ref (a 7), .ref (a 10), .ref (a 13), .ref (a 15), .int g.2.2.2.2.2.2.2.2.2.2.2.2.2.2.2.2.2.2.2.2.2.2.2.2.1, .int g.2.2.2.2.2.2.2.2.2.2.2.2.2.2.2.2.2.2.2.2.2.2.2.2.2.1, .int g.2.2.2.2.2.2.2.2.2.2.2.2.2.2.2.2.2.2.2.2.2.2.2.2.2.2.1, .int g.2.2.2.2.2.2.2.2.2.2.2.2.2.2.2.2.2.2.2.2.2.2.2.2.2.2.2.1, .int g.2.2.2.2.2.2.2.2.2.2.2.2.2.2.2.2.2.2.2.2.2.2.2.2.2.2.2.2.1, .int g.2.2.2.2.2.2.2.2.2.2.2.2.2.2.2.2.2.2.2.2.2.2.2.2.2.2.2.2.2])), ((a 1), .inr (3, [.ref (a 2)])), ((a 2), .inr (5, [.ref (a 3), .ref (a 4), .int g.2.2.1, .int g.2.2.2.1])), ((a 3), .inl (cI, 6, .inl g.1)), ((a 4), .inl (cI, 6, .inl g.2.1)), ((a 5), .inr (0, [.int g.2.2.2.2.1, .int g.2.2.2.2.2.1, .int g.2.2.2.2.2.2.1, .int g.2.2.2.2.2.2.2.1])), ((a 6), .inr (0, [.int g.2.2.2.2.2.2.2.2.1, .int g.2.2.2.2.2.2.2.2.2.1, .int g.2.2.2.2.2.2.2.2.2.2.1, .int g.2.2.2.2.2.2.2.2.2.2.2.1])), ((a 7), .inr (5, [.ref (a 8), .ref (a 9), .int g.2.2.2.2.2.2.2.2.2.2.2.2.2.2.1, .int g.2.2.2.2.2.2.2.2.2.2.2.2.2.2.2.1])), ((a 8), .inl (cI, 106, .inl g.2.2.2.2.2.2.2.2.2.2.2.2.1)), ((a 9), .inl (cI, 106, .inl g.2.2.2.2.2.2.2.2.2.2.2.2.2.1)), ((a 10), .inr (5, [.ref (a 11), .ref (a 12), .int g.2.2.2.2.2.2.2.2.2.2.2.2.2.2.2.2.2.2.1, .int g.2.2.2.2.2.2.2.2.2.2.2.2.2.2.2.2.2.2.2.1])), ((a 11), .inl (cI, 400, .inl g.2.2.2.2.2.2.2.2.2.2.2.2.2.2.2.2.1)), ((a 12), .inl (cI, 400, .inl g.2.2.2.2.2.2.2.2.2.2.2.2.2.2.2.2.2.1)), ((a 13), .inr (6, [.ref (a 14), .int g.2.2.2.2.2.2.2.2.2.2.2.2.2.2.2.2.2.2.2.2.2.1, .int g.2.2.2.2.2.2.2.2.2.2.2.2.2.2.2.2.2.2.2.2.2.2.1])), ((a 14), .inl (cI, 96, .inl g.2.2.2.2.2.2.2.2.2.2.2.2.2.2.2.2.2.2.2.2.1)), ((a 15), .inl (cI, 6, .inl g.2.2.2.2.2.2.2.2.2.2.2.2.2.2.2.2.2.2.2.2.2.2.2.1)), (sp, .inr (1, [.ref (o 1), .ref (o 5), .ref (o 6), .ref (o 7), .ref (o 10), .ref (o 13), .ref (o 15), .int q2.2.2.2.2.2.2.2.2.2.2.2.2.2.2.2.2.2.2.2.2.2.2.2.2.2.1, .int q2.2.2.2.2.2.2.2.2.2.2.2.2.2.2.2.2.2.2.2.2.2.2.2.2.2.2.1, .int q2.2.2.2.2.2.2.2.2.2.2.2.2.2.2.2.2.2.2.2.2.2.2.2.2.2.2.2.1, .int q2.2.2.2.2.2.2.2.2.2.2.2.2.2.2.2.2.2.2.2.2.2.2.2.2.2.2.2.2.1, .int q2.2.2.2.2.2.2.2.2.2.2.2.2.2.2.2.2.2.2.2.2.2.2.2.2.2.2.2.2.2.1, .int q2.2.2.2.2.2.2.2.2.2.2.2.2.2.2.2.2.2.2.2.2.2.2.2.2.2.2.2.2.2.2])), ((o 1), .inr (3, [.ref (o 2)])), ((o 2), .inr (5, [.ref (o 3), .ref (o 4), .int q2.2.2.2.1, .int q2.2.2.2.2.1])), ((o 3), .inl (cI, 6, .inl q2.2.1)), ((o 4), .inl (cI, 6, .inl q2.2.2.1)), ((o 5), .inr (0, [.int q2.2.2.2.2.2.1, .int q2.2.2.2.2.2.2.1, .int q2.2.2.2.2.2.2.2.1, .int q2.2.2.2.2.2.2.2.2.1])), ((o 6), .inr (0, [.int q2.2.2.2.2.2.2.2.2.2.1, .int q2.2.2.2.2.2.2.2.2.2.2.1, .int q2.2.2.2.2.2.2.2.2.2.2.2.1, .int q2.2.2.2.2.2.2.2.2.2.2.2.2.1])), ((o 7), .inr (5, [.ref (o 8), .ref (o 9), .int q2.2.2.2.2.2.2.2.2.2.2.2.2.2.2.2.1, .int q2.2.2.2.2.2.2.2.2.2.2.2.2.2.2.2.2.1])), ((o 8), .inl (cI, 106, .inl q2.2.2.2.2.2.2.2.2.2.2.2.2.2.1)), ((o 9), .inl (cI, 106, .inl q2.2.2.2.2.2.2.2.2.2.2.2.2.2.2.1)), ((o 10), .inr (5, [.ref (o 11), .ref (o 12), .int q2.2.2.2.2.2.2.2.2.2.2.2.2.2.2.2.2.2.2.2.1, .int q2.2.2.2.2.2.2.2.2.2.2.2.2.2.2.2.2.2.2.2.2.1])), ((o 11), .inl (cI, 400, .inl q2.2.2.2.2.2.2.2.2.2.2.2.2.2.2.2.2.2.1)), ((o 12), .inl (cI, 400, .inl q2.2.2.2.2.2.2.2.2.2.2.2.2.2.2.2.2.2.2.1)), ((o 13), .inr (6, [.ref (o 14), .int q2.2.2.2.2.2.2.2.2.2.2.2.2.2.2.2.2.2.2.2.2.2.2.1, .int q2.2.2.2.2.2.2.2.2.2.2.2.2.2.2.2.2.2.2.2.2.2.2.2.1])), ((o 14), .inl (cI, 96, .inl q2.2.2.2.2.2.2.2.2.2.2.2.2.2.2.2.2.2.2.2.2.2.1)), ((o 15), .inl (cI, 6, .inl q2.2.2.2.2.2.2.2.2.2.2.2.2.2.2.2.2.2.2.2.2.2.2.2.2.1))] rfl rfl (nW := 34) rfl (by decide +kernel) (fun H locs hP hD hS => ?_)
  obtain rfl := Option.some.inj hf
  exact ret 13 ls _ H locs dX7_set_13 rfl rfl hP hS
abbrev rmX7_wouldTake : Room := { frames := 5, cells := 0, slots := 0, locals := 156 }
set_option maxHeartbeats 4000000 in
set_option maxRecDepth 100000 in
theorem c_X7_wouldTake (t0 : Nat) (t1 : Nat) (t2 : Nat) (a : Nat → Nat) (o : Nat → Nat) (x1 : Int32) (x2 : Int32) (nw : Nat) (sp : Nat) (g : Gr) (go : Gr) (R : Int32 × Gr) (hf : f_X7_wouldTake x1 x2 nw sp g go = some R) : WrI l yX7_wouldTake wsX7_wouldTake rmX7_wouldTake D cI cC ([(t0, .inr (7, [.ref t1, .ref t2, .ref nw, .ref sp]))] ++ w_gr cI cC nw a g ++ w_gr cI cC sp o go) ([(t0, .inr (7, [.ref t1, .ref t2, .ref nw, .ref sp]))] ++ w_gr cI cC nw a g ++ w_gr cI cC sp o R.2) [.ref t0, .int x1, .int x2] R.1 := by
  refine en_W (cc := cX7_wouldTake) (n := 5) (by decide) rfl (Nat.le_of_ble_eq_true rfl) ?_
  intro p e s m args below meth c Q AA ls hx hb hml hown hts hK hN hP hD hS hl ret
  have hown : s.vm.findClass RX7 = some m.cls := hown
  have hF : FX p m c cX7_wouldTake 5 s args wsX7_wouldTake RX7 D cI cC := ⟨⟨hx, hb, hml, hown, hts⟩, hK, hN⟩
  have hl : lv_has ls 5 [(0, .ref t0), (1, .int x1), (2, .int x2)] := hl
  rw [f_X7_wouldTake] at hf
  obtain ⟨H, hH⟩ : ∃ z : Heap, z = s.heap := ⟨_, rfl⟩
  obtain ⟨locs, hL⟩ : ∃ z : List Loc, z = [] := ⟨_, rfl⟩
  replace hP := hH ▸ hP
  replace hS : va_S AA s.heap H locs := by rw [hH, hL]; exact hS
  suffices hgoal : W p l e rmX7_wouldTake s m args below meth c H locs 0 0 Q (F0 m 0 ls []) by rw [hH, hL] at hgoal; exact hgoal
  clear hH hL
  refine lv_aload_n hx hb dX7_wouldTake_0 rfl (lv_at hl 0 rfl) ?_
  obtain ⟨q1, hq1, hf⟩ := ob hf
  refine cl_WAV (W1 := ([(t0, .inr (7, [.ref t1, .ref t2, .ref nw, .ref sp]))] ++ w_gr cI cC nw a g ++ w_gr cI cC sp o q1)) (As := []) (rest := []) hF hP hD hS (c_X7_spareLikeNow t0 t1 t2 a o nw sp g go q1 hq1) (cwV 0 hts gX7_wouldTake_X7_spareLikeNow rfl rfl rfl (by decide +kernel) ⟨(Nat.le_of_ble_eq_true rfl), (Nat.le_of_ble_eq_true rfl)⟩) [0, 1, 2, 3, 4, 5, 6, 7, 8, 9, 10, 11, 12, 13, 14, 15, 16, 17, 18, 19, 20, 21, 22, 23, 24, 25, 26, 27, 28, 29, 30, 31, 32] rfl (by decide +kernel) (va_recv hK hP (ci := 7) (q0 := 0) rfl rfl) rfl rfl hl.1 (Nat.le_of_ble_eq_true rfl) dX7_wouldTake_1 ⟨Nat.zero_le _, Nat.zero_le _⟩ (hA2 [t0, nw, (a 1), (a 2), (a 3), (a 4), (a 5), (a 6), (a 7), (a 8), (a 9), (a 10), (a 11), (a 12), (a 13), (a 14), (a 15), sp, (o 1), (o 2), (o 3), (o 4), (o 5), (o 6), (o 7), (o 8), (o 9), (o 10), (o 11), (o 12), (o 13), (o 14), (o 15)] rfl rfl) [] rfl [] rfl rfl (nW := 33) rfl (by decide +kernel) (fun H locs hP hD hS => ?_)
  refine lv_astore_n (lv' := [(3, .ref sp), (0, .ref t0), (1, .int x1), (2, .int x2)]) hx hb dX7_wouldTake_4 rfl hl (by decide) rfl (fun ls hl => ?_)
  refine lv_aload_n hx hb dX7_wouldTake_5 rfl (lv_at hl 0 rfl) ?_
  refine lv_iload_n hx hb dX7_wouldTake_6 rfl (lv_at hl 2 rfl) ?_
  refine lv_iload_n hx hb dX7_wouldTake_7 rfl (lv_at hl 3 rfl) ?_
  obtain ⟨q2, hq2, hf⟩ := ob hf
  refine cl_WV (W1 := ([(t0, .inr (7, [.ref t1, .ref t2, .ref nw, .ref sp]))] ++ w_gr cI cC nw a g ++ w_gr cI cC sp o q2.2)) (As := [.int x1, .int x2]) (rest := []) hF hP hD hS (C_X1_grindBy sp o x1 x2 q1 q2 hq2) (cwV 2 hts gX7_wouldTake_X1_grindBy rfl rfl rfl (by decide +kernel) ⟨(Nat.le_of_ble_eq_true rfl), (Nat.le_of_ble_eq_true rfl)⟩) [17, 18, 19, 20, 21, 22, 23, 24, 25, 26, 27, 28, 29, 30, 31, 32] rfl (by decide +kernel) (va_recv hK hP (ci := 1) (q0 := 17) rfl rfl) rfl rfl hl.1 (Nat.le_of_ble_eq_true rfl) dX7_wouldTake_8 ⟨Nat.zero_le _, Nat.zero_le _⟩ (hA2 [sp, (o 1), (o 2), (o 3), (o 4), (o 5), (o 6), (o 7), (o 8), (o 9), (o 10), (o 11), (o 12), (o 13), (o 14), (o 15)] rfl rfl) [0, 1, 2, 3, 4, 5, 6, 7, 8, 9, 10, 11, 12, 13, 14, 15, 16] rfl [(t0, .inr (7, [.ref t1, .ref t2, .ref nw, .ref sp])), (nw, .inr (1, [.ref (a 1), .ref (a 5), .ref (a 6), .ref (a 7), .ref (a 10), .ref (a 13), .ref (a 15), .int g.2.2.2.2.2.2.2.2.2.2.2.2.2.2.2.2.2.2.2.2.2.2.2.2.1, .int g.2.2.2.2.2.2.2.2.2.2.2.2.2.2.2.2.2.2.2.2.2.2.2.2.2.1, .int g.2.2.2.2.2.2.2.2.2.2.2.2.2.2.2.2.2.2.2.2.2.2.2.2.2.2.1, .int g.2.2.2.2.2.2.2.2.2.2.2.2.2.2.2.2.2.2.2.2.2.2.2.2.2.2.2.1, .int g.2.2.2.2.2.2.2.2.2.2.2.2.2.2.2.2.2.2.2.2.2.2.2.2.2.2.2.2.1, .int g.2.2.2.2.2.2.2.2.2.2.2.2.2.2.2.2.2.2.2.2.2.2.2.2.2.2.2.2.2])), ((a 1), .inr (3, [.ref (a 2)])), ((a 2), .inr (5, [.ref (a 3), .ref (a 4), .int g.2.2.1, .int g.2.2.2.1])), ((a 3), .inl (cI, 6, .inl g.1)), ((a 4), .inl (cI, 6, .inl g.2.1)), ((a 5), .inr (0, [.int g.2.2.2.2.1, .int g.2.2.2.2.2.1, .int g.2.2.2.2.2.2.1, .int g.2.2.2.2.2.2.2.1])), ((a 6), .inr (0, [.int g.2.2.2.2.2.2.2.2.1, .int g.2.2.2.2.2.2.2.2.2.1, .int g.2.2.2.2.2.2.2.2.2.2.1, .int g.2.2.2.2.2.2.2.2.2.2.2.1])), ((a 7), .inr (5, [.ref (a 8), .ref (a 9), .int g.2.2.2.2.2.2.2.2.2.2.2.2.2.2.1, .int g.2.2.2.2.2.2.2.2.2.2.2.2.2.2.2.1])), ((a 8), .inl (cI, 106, .inl g.2.2.2.2.2.2.2.2.2.2.2.2.1)), ((a 9), .inl (cI, 106, .inl g.2.2.2.2.2.2.2.2.2.2.2.2.2.1)), ((a 10), .inr (5, [.ref (a 11), .ref (a 12), .int g.2.2.2.2.2.2.2.2.2.2.2.2.2.2.2.2.2.2.1, .int g.2.2.2.2.2.2.2.2.2.2.2.2.2.2.2.2.2.2.2.1])), ((a 11), .inl (cI, 400, .inl g.2.2.2.2.2.2.2.2.2.2.2.2.2.2.2.2.1)), ((a 12), .inl (cI, 400, .inl g.2.2.2.2.2.2.2.2.2.2.2.2.2.2.2.2.2.1)), ((a 13), .inr (6, [.ref (a 14), .int g.2.2.2.2.2.2.2.2.2.2.2.2.2.2.2.2.2.2.2.2.2.1, .int g.2.2.2.2.2.2.2.2.2.2.2.2.2.2.2.2.2.2.2.2.2.2.1])), ((a 14), .inl (cI, 96, .inl g.2.2.2.2.2.2.2.2.2.2.2.2.2.2.2.2.2.2.2.2.1)), ((a 15), .inl (cI, 6, .inl g.2.2.2.2.2.2.2.2.2.2.2.2.2.2.2.2.2.2.2.2.2.2.2.1))] rfl rfl (nW := 33) rfl (by decide +kernel) (fun H locs hP hD hS => ?_)
  refine lv_istore (lv' := [(4, .int q2.1), (3, .ref sp), (0, .ref t0), (1, .int x1), (2, .int x2)]) hx hb dX7_wouldTake_11 hl (by decide) rfl (fun ls hl => ?_)
  refine lv_iload hx hb dX7_wouldTake_13 (lv_at hl 0 rfl) ?_
  refine lv_if_ge (tgt := 23) hx hb dX7_wouldTake_15 (by decide) (fun hc3 => ?_) (fun hc3 => ?_)
  · replace hf := it hc3 hf
    refine lv_aload_n hx hb dX7_wouldTake_23 rfl (lv_at hl 1 rfl) ?_
    obtain ⟨q4, hq4, hf⟩ := ob hf
    refine cl_RV (As := []) (rest := []) hF hP hD (C_X1_timeOfBasket sp o q2.2 q4 hq4) (cwV 0 hts gX7_wouldTake_X1_timeOfBasket rfl rfl rfl (by decide +kernel) ⟨(Nat.le_of_ble_eq_true rfl), (Nat.le_of_ble_eq_true rfl)⟩) [17, 18, 19, 20, 21, 22, 23, 24, 25, 26, 27, 28, 29, 30, 31, 32] rfl (by decide +kernel) (va_recv hK hP (ci := 1) (q0 := 17) rfl rfl) rfl rfl hl.1 (Nat.le_of_ble_eq_true rfl) dX7_wouldTake_24 ⟨Nat.zero_le _, Nat.zero_le _⟩ ?_
    obtain rfl := Option.some.inj hf
    exact ret 27 ls _ H locs dX7_wouldTake_27 rfl rfl hP hS
  · replace hf := ie hc3 hf
    refine lv_iload hx hb dX7_wouldTake_18 (lv_at hl 0 rfl) ?_
    refine lv_goto (tgt := 27) hx hb dX7_wouldTake_20 (by decide) ?_
    obtain rfl := Option.some.inj hf
    exact ret 27 ls _ H locs dX7_wouldTake_27 rfl rfl hP hS
abbrev rmX7_burrOf : Room := { frames := 4, cells := 0, slots := 0, locals := 83 }
set_option maxHeartbeats 4000000 in
set_option maxRecDepth 100000 in
theorem c_X7_burrOf (t0 : Nat) (t1 : Nat) (t2 : Nat) (a : Nat → Nat) (x1 : Int32) (x2 : Int32) (nw : Nat) (sp : Nat) (pA : Nat → Int32) (pM : Nat → Int32) (pn : Int32) (pt : Int32) (d0 : Int32) (w0 : Int32) (g0 : Int32) (k0 : Int32) (d1 : Int32) (w1 : Int32) (g1 : Int32) (k1 : Int32) (qA : Nat → Int32) (qM : Nat → Int32) (qn : Int32) (qt : Int32) (uA : Nat → Int32) (uM : Nat → Int32) (un : Int32) (ut : Int32) (sF : Nat → Int32) (sk : Int32) (sm : Int32) (st : Nat → Int32) (se : Int32) (fi : Int32) (gr : Int32) (br : Int32) (pu : Int32) (nr : Int32) (R : Int32) (hf : f_X7_burrOf x1 x2 nw d0 w0 g0 k0 d1 w1 g1 k1 = some R) : RdI l yX7_burrOf wsX7_burrOf rmX7_burrOf D cI cC (w_topq cI cC t0 t1 t2 a nw sp pA pM pn pt d0 w0 g0 k0 d1 w1 g1 k1 qA qM qn qt uA uM un ut sF sk sm st se fi gr br pu nr) [.ref t0, .int x1, .int x2] R := by
  refine en_R (cc := cX7_burrOf) (n := 3) (by decide) rfl (Nat.le_of_ble_eq_true rfl) ?_
  intro p e s m args below meth c Q AA ls hx hb hml hown hts hK hN hP hD hl ret
  have hown : s.vm.findClass RX7 = some m.cls := hown
  have hF : FX p m c cX7_burrOf 3 s args wsX7_burrOf RX7 D cI cC := ⟨⟨hx, hb, hml, hown, hts⟩, hK, hN⟩
  have hl : lv_has ls 3 [(0, .ref t0), (1, .int x1), (2, .int x2)] := hl
  have k1_ := hts (.constant RX7 71 (-1000001)) (List.mem_of_getElem? (i := 1) rfl)
  have k2_ := hts (.fieldLink RX7 26 "DriftGrinders" "now" "LDriftGrinders$Grinder;") (List.mem_of_getElem? (i := 2) rfl)
  have n7_ : ∀ w ∈ wsX70, w ∈ wsX7_burrOf := fun _ h => List.mem_cons_of_mem _ (List.mem_append_left _ (List.mem_append_left _ (List.mem_append_right _ h)))
  rw [f_X7_burrOf] at hf
  refine lv_iload_n hx hb dX7_burrOf_0 rfl (lv_at hl 1 rfl) ?_
  obtain ⟨q1, hq1, hf⟩ := ob hf
  refine cl_RS (As := [.int x1]) (rest := []) hF hP hD (c_X7_isZeroOrOne x1 q1 hq1) (va_cwS 1 hts gX7_burrOf_X7_isZeroOrOne rfl rfl rfl (by decide +kernel) ⟨(Nat.le_of_ble_eq_true rfl), (Nat.le_of_ble_eq_true rfl)⟩) [] rfl (by decide +kernel) rfl rfl hl.1 (Nat.le_of_ble_eq_true rfl) dX7_burrOf_1 ⟨Nat.zero_le _, Nat.zero_le _⟩ ?_
  refine lv_if_eq (tgt := 16) hx hb dX7_burrOf_4 (by decide) (fun hc2 => ?_) (fun hc2 => ?_)
  · replace hf := it hc2 hf
    refine lv_ldc hx hb hown k1_ dX7_burrOf_16 ?_
    obtain rfl := Option.some.inj hf
    exact ret 18 ls _ dX7_burrOf_18 rfl rfl
  · replace hf := ie hc2 hf
    refine lv_iload_n hx hb dX7_burrOf_7 rfl (lv_at hl 2 rfl) ?_
    refine lv_if_lt (tgt := 16) hx hb dX7_burrOf_8 (by decide) (fun hc3 => ?_) (fun hc3 => ?_)
    · replace hf := it hc3 hf
      refine lv_ldc hx hb hown k1_ dX7_burrOf_16 ?_
      obtain rfl := Option.some.inj hf
      exact ret 18 ls _ dX7_burrOf_18 rfl rfl
    · replace hf := ie hc3 hf
      refine lv_iload_n hx hb dX7_burrOf_11 rfl (lv_at hl 2 rfl) ?_
      refine lv_iconst (v := (4 : Int32)) hx hb dX7_burrOf_12 (by decide) ?_
      refine lv_icmp_le (tgt := 19) hx hb dX7_burrOf_13 (by decide) (fun hc4 => ?_) (fun hc4 => ?_)
      · replace hf := it hc4 hf
        refine lv_aload_n hx hb dX7_burrOf_19 rfl (lv_at hl 0 rfl) ?_
        refine va_get hx hb hts n7_ hown hK hP 0 rfl rfl 2 (Nat.le_of_ble_eq_true rfl) k2_ (fun _ h => h) rfl dX7_burrOf_20 ?_
        refine lv_iload_n hx hb dX7_burrOf_23 rfl (lv_at hl 1 rfl) ?_
        by_cases hc5 : x1 = 0
        · replace hf := it hc5 hf
          refine cl_AV (As := [.int x1]) (rest := []) hF hP hD (c_X1_burrNumbered_0 nw a x1 pA pM pn pt d0 w0 g0 k0 d1 w1 g1 k1 qA qM qn qt uA uM un ut sF sk sm st se fi gr br pu nr hc5) (cwV 1 hts gX7_burrOf_X1_burrNumbered rfl rfl rfl (by decide +kernel) ⟨(Nat.le_of_ble_eq_true rfl), (Nat.le_of_ble_eq_true rfl)⟩) [1, 2, 3, 4, 5, 6, 7, 8, 9, 10, 11, 12, 13, 14, 15, 16] rfl (by decide +kernel) (va_recv hK hP (ci := 1) (q0 := 1) rfl rfl) rfl rfl hl.1 (Nat.le_of_ble_eq_true rfl) dX7_burrOf_24 ⟨Nat.zero_le _, Nat.zero_le _⟩ ?_
          refine lv_iload_n hx hb dX7_burrOf_27 rfl (lv_at hl 2 rfl) ?_
          obtain ⟨q6, hq6, hf⟩ := ob hf
          refine cl_RV (As := [.int x2]) (rest := []) hF hP hD (c_X0_tell (a 5) x2 d0 w0 g0 k0 q6 hq6) (cwV 1 hts gX7_burrOf_X0_tell rfl rfl rfl (by decide +kernel) ⟨(Nat.le_of_ble_eq_true rfl), (Nat.le_of_ble_eq_true rfl)⟩) [6] rfl (by decide +kernel) (va_recv hK hP (ci := 0) (q0 := 6) rfl rfl) rfl rfl hl.1 (Nat.le_of_ble_eq_true rfl) dX7_burrOf_28 ⟨Nat.zero_le _, Nat.zero_le _⟩ ?_
          obtain rfl := Option.some.inj hf
          exact ret 31 ls _ dX7_burrOf_31 rfl rfl
        · replace hf := ie hc5 hf
          refine cl_AV (As := [.int x1]) (rest := []) hF hP hD (c_X1_burrNumbered_1 nw a x1 pA pM pn pt d0 w0 g0 k0 d1 w1 g1 k1 qA qM qn qt uA uM un ut sF sk sm st se fi gr br pu nr hc5) (cwV 1 hts gX7_burrOf_X1_burrNumbered rfl rfl rfl (by decide +kernel) ⟨(Nat.le_of_ble_eq_true rfl), (Nat.le_of_ble_eq_true rfl)⟩) [1, 2, 3, 4, 5, 6, 7, 8, 9, 10, 11, 12, 13, 14, 15, 16] rfl (by decide +kernel) (va_recv hK hP (ci := 1) (q0 := 1) rfl rfl) rfl rfl hl.1 (Nat.le_of_ble_eq_true rfl) dX7_burrOf_24 ⟨Nat.zero_le _, Nat.zero_le _⟩ ?_
          refine lv_iload_n hx hb dX7_burrOf_27 rfl (lv_at hl 2 rfl) ?_
          obtain ⟨q7, hq7, hf⟩ := ob hf
          refine cl_RV (As := [.int x2]) (rest := []) hF hP hD (c_X0_tell (a 6) x2 d1 w1 g1 k1 q7 hq7) (cwV 1 hts gX7_burrOf_X0_tell rfl rfl rfl (by decide +kernel) ⟨(Nat.le_of_ble_eq_true rfl), (Nat.le_of_ble_eq_true rfl)⟩) [7] rfl (by decide +kernel) (va_recv hK hP (ci := 0) (q0 := 7) rfl rfl) rfl rfl hl.1 (Nat.le_of_ble_eq_true rfl) dX7_burrOf_28 ⟨Nat.zero_le _, Nat.zero_le _⟩ ?_
          obtain rfl := Option.some.inj hf
          exact ret 31 ls _ dX7_burrOf_31 rfl rfl
      · replace hf := ie hc4 hf
        refine lv_ldc hx hb hown k1_ dX7_burrOf_16 ?_
        obtain rfl := Option.some.inj hf
        exact ret 18 ls _ dX7_burrOf_18 rfl rfl
abbrev rmX7_lotOf : Room := { frames := 3, cells := 0, slots := 0, locals := 43 }
set_option maxHeartbeats 4000000 in
set_option maxRecDepth 100000 in
theorem c_X7_lotOf (t0 : Nat) (t1 : Nat) (t2 : Nat) (a : Nat → Nat) (x1 : Int32) (x2 : Int32) (nw : Nat) (sp : Nat) (pA : Nat → Int32) (pM : Nat → Int32) (pn : Int32) (pt : Int32) (d0 : Int32) (w0 : Int32) (g0 : Int32) (k0 : Int32) (d1 : Int32) (w1 : Int32) (g1 : Int32) (k1 : Int32) (qA : Nat → Int32) (qM : Nat → Int32) (qn : Int32) (qt : Int32) (uA : Nat → Int32) (uM : Nat → Int32) (un : Int32) (ut : Int32) (sF : Nat → Int32) (sk : Int32) (sm : Int32) (st : Nat → Int32) (se : Int32) (fi : Int32) (gr : Int32) (br : Int32) (pu : Int32) (nr : Int32) (R : Int32) (hf : f_X7_lotOf x1 x2 nw pA pM pn = some R) : RdI l yX7_lotOf wsX7_lotOf rmX7_lotOf D cI cC (w_topq cI cC t0 t1 t2 a nw sp pA pM pn pt d0 w0 g0 k0 d1 w1 g1 k1 qA qM qn qt uA uM un ut sF sk sm st se fi gr br pu nr) [.ref t0, .int x1, .int x2] R := by
  refine en_R (cc := cX7_lotOf) (n := 3) (by decide) rfl (Nat.le_of_ble_eq_true rfl) ?_
  intro p e s m args below meth c Q AA ls hx hb hml hown hts hK hN hP hD hl ret
  have hown : s.vm.findClass RX7 = some m.cls := hown
  have hF : FX p m c cX7_lotOf 3 s args wsX7_lotOf RX7 D cI cC := ⟨⟨hx, hb, hml, hown, hts⟩, hK, hN⟩
  have hl : lv_has ls 3 [(0, .ref t0), (1, .int x1), (2, .int x2)] := hl
  have k1_ := hts (.constant RX7 71 (-1000001)) (List.mem_of_getElem? (i := 1) rfl)
  have k2_ := hts (.fieldLink RX7 26 "DriftGrinders" "now" "LDriftGrinders$Grinder;") (List.mem_of_getElem? (i := 2) rfl)
  have n1_ : ∀ w ∈ wsX10, w ∈ wsX7_lotOf := fun _ h => List.mem_cons_of_mem _ (List.mem_append_left _ (List.mem_append_left _ (List.mem_append_right _ h)))
  have n7_ : ∀ w ∈ wsX70, w ∈ wsX7_lotOf := fun _ h => List.mem_cons_of_mem _ (List.mem_append_left _ (List.mem_append_left _ (List.mem_append_left _ (List.mem_append_right _ h))))
  rw [f_X7_lotOf] at hf
  refine lv_iload_n hx hb dX7_lotOf_0 rfl (lv_at hl 1 rfl) ?_
  refine lv_if_lt (tgt := 13) hx hb dX7_lotOf_1 (by decide) (fun hc1 => ?_) (fun hc1 => ?_)
  · replace hf := it hc1 hf
    refine lv_ldc hx hb hown k1_ dX7_lotOf_13 ?_
    obtain rfl := Option.some.inj hf
    exact ret 15 ls _ dX7_lotOf_15 rfl rfl
  · replace hf := ie hc1 hf
    refine lv_iload_n hx hb dX7_lotOf_4 rfl (lv_at hl 2 rfl) ?_
    refine lv_if_lt (tgt := 13) hx hb dX7_lotOf_5 (by decide) (fun hc2 => ?_) (fun hc2 => ?_)
    · replace hf := it hc2 hf
      refine lv_ldc hx hb hown k1_ dX7_lotOf_13 ?_
      obtain rfl := Option.some.inj hf
      exact ret 15 ls _ dX7_lotOf_15 rfl rfl
    · replace hf := ie hc2 hf
      refine lv_iload_n hx hb dX7_lotOf_8 rfl (lv_at hl 2 rfl) ?_
      refine lv_iconst (v := (1 : Int32)) hx hb dX7_lotOf_9 (by decide) ?_
      refine lv_icmp_le (tgt := 16) hx hb dX7_lotOf_10 (by decide) (fun hc3 => ?_) (fun hc3 => ?_)
      · replace hf := it hc3 hf
        refine lv_aload_n hx hb dX7_lotOf_16 rfl (lv_at hl 0 rfl) ?_
        refine va_get hx hb hts n7_ hown hK hP 0 rfl rfl 2 (Nat.le_of_ble_eq_true rfl) k2_ (fun _ h => h) rfl dX7_lotOf_17 ?_
        refine va_getN hx hb hts n1_ hown hK hP 1 rfl rfl 0 (Nat.le_of_ble_eq_true rfl) (hN.get 8 rfl) (fun _ h => h) rfl dX7_lotOf_20 ?_
        refine lv_iload_n hx hb dX7_lotOf_23 rfl (lv_at hl 1 rfl) ?_
        refine lv_iload_n hx hb dX7_lotOf_24 rfl (lv_at hl 2 rfl) ?_
        obtain ⟨q4, hq4, hf⟩ := ob hf
        refine cl_RV (As := [.int x1, .int x2]) (rest := []) hF hP hD (c_X3_tell (a 1) (a 2) (a 3) (a 4) 6 x1 x2 pA pM pn pt q4 hq4) (cwV 2 hts gX7_lotOf_X3_tell rfl rfl rfl (by decide +kernel) ⟨(Nat.le_of_ble_eq_true rfl), (Nat.le_of_ble_eq_true rfl)⟩) [2, 3, 4, 5] rfl (by decide +kernel) (va_recv hK hP (ci := 3) (q0 := 2) rfl rfl) rfl rfl hl.1 (Nat.le_of_ble_eq_true rfl) dX7_lotOf_25 ⟨Nat.zero_le _, Nat.zero_le _⟩ ?_
        obtain rfl := Option.some.inj hf
        exact ret 28 ls _ dX7_lotOf_28 rfl rfl
      · replace hf := ie hc3 hf
        refine lv_ldc hx hb hown k1_ dX7_lotOf_13 ?_
        obtain rfl := Option.some.inj hf
        exact ret 15 ls _ dX7_lotOf_15 rfl rfl
abbrev rmX7_portionOf : Room := { frames := 4, cells := 0, slots := 0, locals := 66 }
set_option maxHeartbeats 4000000 in
set_option maxRecDepth 100000 in
theorem c_X7_portionOf (t0 : Nat) (t1 : Nat) (t2 : Nat) (a : Nat → Nat) (x1 : Int32) (x2 : Int32) (x3 : Int32) (nw : Nat) (sp : Nat) (pA : Nat → Int32) (pM : Nat → Int32) (pn : Int32) (pt : Int32) (d0 : Int32) (w0 : Int32) (g0 : Int32) (k0 : Int32) (d1 : Int32) (w1 : Int32) (g1 : Int32) (k1 : Int32) (qA : Nat → Int32) (qM : Nat → Int32) (qn : Int32) (qt : Int32) (uA : Nat → Int32) (uM : Nat → Int32) (un : Int32) (ut : Int32) (sF : Nat → Int32) (sk : Int32) (sm : Int32) (st : Nat → Int32) (se : Int32) (fi : Int32) (gr : Int32) (br : Int32) (pu : Int32) (nr : Int32) (R : Int32) (hf : f_X7_portionOf x1 x2 x3 nw qA qM qn uA uM un st = some R) : RdI l yX7_portionOf wsX7_portionOf rmX7_portionOf D cI cC (w_topq cI cC t0 t1 t2 a nw sp pA pM pn pt d0 w0 g0 k0 d1 w1 g1 k1 qA qM qn qt uA uM un ut sF sk sm st se fi gr br pu nr) [.ref t0, .int x1, .int x2, .int x3] R := by
  refine en_R (cc := cX7_portionOf) (n := 4) (by decide) rfl (Nat.le_of_ble_eq_true rfl) ?_
  intro p e s m args below meth c Q AA ls hx hb hml hown hts hK hN hP hD hl ret
  have hown : s.vm.findClass RX7 = some m.cls := hown
  have hF : FX p m c cX7_portionOf 4 s args wsX7_portionOf RX7 D cI cC := ⟨⟨hx, hb, hml, hown, hts⟩, hK, hN⟩
  have hl : lv_has ls 4 [(0, .ref t0), (1, .int x1), (2, .int x2), (3, .int x3)] := hl
  have k1_ := hts (.constant RX7 71 (-1000001)) (List.mem_of_getElem? (i := 1) rfl)
  have k2_ := hts (.fieldLink RX7 26 "DriftGrinders" "now" "LDriftGrinders$Grinder;") (List.mem_of_getElem? (i := 2) rfl)
  have n1_ : ∀ w ∈ wsX10, w ∈ wsX7_portionOf := fun _ h => List.mem_cons_of_mem _ (List.mem_append_left _ (List.mem_append_right _ h))
  have n7_ : ∀ w ∈ wsX70, w ∈ wsX7_portionOf := fun _ h => List.mem_cons_of_mem _ (List.mem_append_left _ (List.mem_append_left _ (List.mem_append_right _ h)))
  have J48 : ∀ (y2_48 : Int32) (y3_48 : Int32), ∀ ls : Array Slot, lv_has ls 4 [(2, .int y2_48), (3, .int y3_48)] → f_X7_portionOf_J48 nw qA qM qn uA uM un st y2_48 y3_48 = some R → W p l e rmX7_portionOf s m args below meth c s.heap [] 0 0 Q (F0 m 48 ls [.ref (a 10), .ref nw]) := by
    intro y2_48 y3_48 ls hl hf
    rw [f_X7_portionOf_J48] at hf
    refine lv_iload_n hx hb dX7_portionOf_48 rfl (lv_at hl 0 rfl) ?_
    refine lv_iload_n hx hb dX7_portionOf_49 rfl (lv_at hl 1 rfl) ?_
    obtain ⟨q7, hq7, hf⟩ := ob hf
    refine cl_RV (As := [.ref (a 10), .int y2_48, .int y3_48]) (rest := []) hF hP hD (c_X1_tellPortion_u nw a y2_48 y3_48 pA pM pn pt d0 w0 g0 k0 d1 w1 g1 k1 qA qM qn qt uA uM un ut sF sk sm st se fi gr br pu nr q7 hq7) (cwV 3 hts gX7_portionOf_X1_tellPortion rfl rfl rfl (by decide +kernel) ⟨(Nat.le_of_ble_eq_true rfl), (Nat.le_of_ble_eq_true rfl)⟩) [1, 2, 3, 4, 5, 6, 7, 8, 9, 10, 11, 12, 13, 14, 15, 16] rfl (by decide +kernel) (va_recv hK hP (ci := 1) (q0 := 1) rfl rfl) rfl rfl hl.1 (Nat.le_of_ble_eq_true rfl) dX7_portionOf_50 ⟨Nat.zero_le _, Nat.zero_le _⟩ ?_
    obtain rfl := Option.some.inj hf
    exact ret 53 ls _ dX7_portionOf_53 rfl rfl
  have J48a : ∀ (y2_48a : Int32) (y3_48a : Int32), ∀ ls : Array Slot, lv_has ls 4 [(2, .int y2_48a), (3, .int y3_48a)] → f_X7_portionOf_J48a nw qA qM qn uA uM un st y2_48a y3_48a = some R → W p l e rmX7_portionOf s m args below meth c s.heap [] 0 0 Q (F0 m 48 ls [.ref (a 7), .ref nw]) := by
    intro y2_48a y3_48a ls hl hf
    rw [f_X7_portionOf_J48a] at hf
    refine lv_iload_n hx hb dX7_portionOf_48 rfl (lv_at hl 0 rfl) ?_
    refine lv_iload_n hx hb dX7_portionOf_49 rfl (lv_at hl 1 rfl) ?_
    obtain ⟨q8, hq8, hf⟩ := ob hf
    refine cl_RV (As := [.ref (a 7), .int y2_48a, .int y3_48a]) (rest := []) hF hP hD (c_X1_tellPortion_q nw a y2_48a y3_48a pA pM pn pt d0 w0 g0 k0 d1 w1 g1 k1 qA qM qn qt uA uM un ut sF sk sm st se fi gr br pu nr q8 hq8) (cwV 3 hts gX7_portionOf_X1_tellPortion rfl rfl rfl (by decide +kernel) ⟨(Nat.le_of_ble_eq_true rfl), (Nat.le_of_ble_eq_true rfl)⟩) [1, 2, 3, 4, 5, 6, 7, 8, 9, 10, 11, 12, 13, 14, 15, 16] rfl (by decide +kernel) (va_recv hK hP (ci := 1) (q0 := 1) rfl rfl) rfl rfl hl.1 (Nat.le_of_ble_eq_true rfl) dX7_portionOf_50 ⟨Nat.zero_le _, Nat.zero_le _⟩ ?_
    obtain rfl := Option.some.inj hf
    exact ret 53 ls _ dX7_portionOf_53 rfl rfl
  rw [f_X7_portionOf] at hf
  refine lv_iload_n hx hb dX7_portionOf_0 rfl (lv_at hl 1 rfl) ?_
  obtain ⟨q1, hq1, hf⟩ := ob hf
  refine cl_RS (As := [.int x1]) (rest := []) hF hP hD (c_X7_isZeroOrOne x1 q1 hq1) (va_cwS 1 hts gX7_portionOf_X7_isZeroOrOne rfl rfl rfl (by decide +kernel) ⟨(Nat.le_of_ble_eq_true rfl), (Nat.le_of_ble_eq_true rfl)⟩) [] rfl (by decide +kernel) rfl rfl hl.1 (Nat.le_of_ble_eq_true rfl) dX7_portionOf_1 ⟨Nat.zero_le _, Nat.zero_le _⟩ ?_
  refine lv_if_eq (tgt := 20) hx hb dX7_portionOf_4 (by decide) (fun hc2 => ?_) (fun hc2 => ?_)
  · replace hf := it hc2 hf
    refine lv_ldc hx hb hown k1_ dX7_portionOf_20 ?_
    obtain rfl := Option.some.inj hf
    exact ret 22 ls _ dX7_portionOf_22 rfl rfl
  · replace hf := ie hc2 hf
    refine lv_iload_n hx hb dX7_portionOf_7 rfl (lv_at hl 2 rfl) ?_
    refine lv_if_lt (tgt := 20) hx hb dX7_portionOf_8 (by decide) (fun hc3 => ?_) (fun hc3 => ?_)
    · replace hf := it hc3 hf
      refine lv_ldc hx hb hown k1_ dX7_portionOf_20 ?_
      obtain rfl := Option.some.inj hf
      exact ret 22 ls _ dX7_portionOf_22 rfl rfl
    · replace hf := ie hc3 hf
      refine lv_iload_n hx hb dX7_portionOf_11 rfl (lv_at hl 3 rfl) ?_
      refine lv_if_lt (tgt := 20) hx hb dX7_portionOf_12 (by decide) (fun hc4 => ?_) (fun hc4 => ?_)
      · replace hf := it hc4 hf
        refine lv_ldc hx hb hown k1_ dX7_portionOf_20 ?_
        obtain rfl := Option.some.inj hf
        exact ret 22 ls _ dX7_portionOf_22 rfl rfl
      · replace hf := ie hc4 hf
        refine lv_iload_n hx hb dX7_portionOf_15 rfl (lv_at hl 3 rfl) ?_
        refine lv_iconst (v := (4 : Int32)) hx hb dX7_portionOf_16 (by decide) ?_
        refine lv_icmp_le (tgt := 23) hx hb dX7_portionOf_17 (by decide) (fun hc5 => ?_) (fun hc5 => ?_)
        · replace hf := it hc5 hf
          refine lv_aload_n hx hb dX7_portionOf_23 rfl (lv_at hl 0 rfl) ?_
          refine va_get hx hb hts n7_ hown hK hP 0 rfl rfl 2 (Nat.le_of_ble_eq_true rfl) k2_ (fun _ h => h) rfl dX7_portionOf_24 ?_
          refine lv_iload_n hx hb dX7_portionOf_27 rfl (lv_at hl 1 rfl) ?_
          refine lv_if_ne (tgt := 41) hx hb dX7_portionOf_28 (by decide) (fun hc6 => ?_) (fun hc6 => ?_)
          · replace hf := ie hc6 hf
            refine lv_aload_n hx hb dX7_portionOf_41 rfl (lv_at hl 0 rfl) ?_
            refine va_get hx hb hts n7_ hown hK hP 0 rfl rfl 2 (Nat.le_of_ble_eq_true rfl) k2_ (fun _ h => h) rfl dX7_portionOf_42 ?_
            refine va_getN hx hb hts n1_ hown hK hP 1 rfl rfl 4 (Nat.le_of_ble_eq_true rfl) (hN.get 10 rfl) (fun _ h => h) rfl dX7_portionOf_45 ?_
            exact J48 x2 x3 ls (lv_sub hl [2, 3] rfl) hf
          · replace hf := it hc6 hf
            refine lv_aload_n hx hb dX7_portionOf_31 rfl (lv_at hl 0 rfl) ?_
            refine va_get hx hb hts n7_ hown hK hP 0 rfl rfl 2 (Nat.le_of_ble_eq_true rfl) k2_ (fun _ h => h) rfl dX7_portionOf_32 ?_
            refine va_getN hx hb hts n1_ hown hK hP 1 rfl rfl 3 (Nat.le_of_ble_eq_true rfl) (hN.get 9 rfl) (fun _ h => h) rfl dX7_portionOf_35 ?_
            refine lv_goto (tgt := 48) hx hb dX7_portionOf_38 (by decide) ?_
            exact J48a x2 x3 ls (lv_sub hl [2, 3] rfl) hf
        · replace hf := ie hc5 hf
          refine lv_ldc hx hb hown k1_ dX7_portionOf_20 ?_
          obtain rfl := Option.some.inj hf
          exact ret 22 ls _ dX7_portionOf_22 rfl rfl
abbrev rmX7_shotOf : Room := { frames := 3, cells := 0, slots := 0, locals := 66 }
set_option maxHeartbeats 4000000 in
set_option maxRecDepth 100000 in
theorem c_X7_shotOf (t0 : Nat) (t1 : Nat) (t2 : Nat) (a : Nat → Nat) (x1 : Int32) (x2 : Int32) (nw : Nat) (sp : Nat) (pA : Nat → Int32) (pM : Nat → Int32) (pn : Int32) (pt : Int32) (d0 : Int32) (w0 : Int32) (g0 : Int32) (k0 : Int32) (d1 : Int32) (w1 : Int32) (g1 : Int32) (k1 : Int32) (qA : Nat → Int32) (qM : Nat → Int32) (qn : Int32) (qt : Int32) (uA : Nat → Int32) (uM : Nat → Int32) (un : Int32) (ut : Int32) (sF : Nat → Int32) (sk : Int32) (sm : Int32) (st : Nat → Int32) (se : Int32) (fi : Int32) (gr : Int32) (br : Int32) (pu : Int32) (nr : Int32) (R : Int32) (hf : f_X7_shotOf x1 x2 nw sF sk st = some R) : RdI l yX7_shotOf wsX7_shotOf rmX7_shotOf D cI cC (w_topq cI cC t0 t1 t2 a nw sp pA pM pn pt d0 w0 g0 k0 d1 w1 g1 k1 qA qM qn qt uA uM un ut sF sk sm st se fi gr br pu nr) [.ref t0, .int x1, .int x2] R := by
  refine en_R (cc := cX7_shotOf) (n := 3) (by decide) rfl (Nat.le_of_ble_eq_true rfl) ?_
  intro p e s m args below meth c Q AA ls hx hb hml hown hts hK hN hP hD hl ret
  have hown : s.vm.findClass RX7 = some m.cls := hown
  have hF : FX p m c cX7_shotOf 3 s args wsX7_shotOf RX7 D cI cC := ⟨⟨hx, hb, hml, hown, hts⟩, hK, hN⟩
  have hl : lv_has ls 3 [(0, .ref t0), (1, .int x1), (2, .int x2)] := hl
  have k1_ := hts (.constant RX7 71 (-1000001)) (List.mem_of_getElem? (i := 1) rfl)
  have k2_ := hts (.fieldLink RX7 26 "DriftGrinders" "now" "LDriftGrinders$Grinder;") (List.mem_of_getElem? (i := 2) rfl)
  have n1_ : ∀ w ∈ wsX10, w ∈ wsX7_shotOf := fun _ h => List.mem_cons_of_mem _ (List.mem_append_left _ (List.mem_append_right _ h))
  have n7_ : ∀ w ∈ wsX70, w ∈ wsX7_shotOf := fun _ h => List.mem_cons_of_mem _ (List.mem_append_left _ (List.mem_append_left _ (List.mem_append_right _ h)))
  rw [f_X7_shotOf] at hf
  refine lv_iload_n hx hb dX7_shotOf_0 rfl (lv_at hl 1 rfl) ?_
  refine lv_if_lt (tgt := 14) hx hb dX7_shotOf_1 (by decide) (fun hc1 => ?_) (fun hc1 => ?_)
  · replace hf := it hc1 hf
    refine lv_ldc hx hb hown k1_ dX7_shotOf_14 ?_
    obtain rfl := Option.some.inj hf
    exact ret 16 ls _ dX7_shotOf_16 rfl rfl
  · replace hf := ie hc1 hf
    refine lv_iload_n hx hb dX7_shotOf_4 rfl (lv_at hl 2 rfl) ?_
    refine lv_if_lt (tgt := 14) hx hb dX7_shotOf_5 (by decide) (fun hc2 => ?_) (fun hc2 => ?_)
    · replace hf := it hc2 hf
      refine lv_ldc hx hb hown k1_ dX7_shotOf_14 ?_
      obtain rfl := Option.some.inj hf
      exact ret 16 ls _ dX7_shotOf_16 rfl rfl
    · replace hf := ie hc2 hf
      refine lv_iload_n hx hb dX7_shotOf_8 rfl (lv_at hl 2 rfl) ?_
      refine lv_bipush (v := (7 : Int32)) hx hb dX7_shotOf_9 (by decide) ?_
      refine lv_icmp_le (tgt := 17) hx hb dX7_shotOf_11 (by decide) (fun hc3 => ?_) (fun hc3 => ?_)
      · replace hf := it hc3 hf
        refine lv_aload_n hx hb dX7_shotOf_17 rfl (lv_at hl 0 rfl) ?_
        refine va_get hx hb hts n7_ hown hK hP 0 rfl rfl 2 (Nat.le_of_ble_eq_true rfl) k2_ (fun _ h => h) rfl dX7_shotOf_18 ?_
        refine va_getN hx hb hts n1_ hown hK hP 1 rfl rfl 5 (Nat.le_of_ble_eq_true rfl) (hN.get 11 rfl) (fun _ h => h) rfl dX7_shotOf_21 ?_
        refine lv_iload_n hx hb dX7_shotOf_24 rfl (lv_at hl 1 rfl) ?_
        refine lv_iload_n hx hb dX7_shotOf_25 rfl (lv_at hl 2 rfl) ?_
        refine lv_aload_n hx hb dX7_shotOf_26 rfl (lv_at hl 0 rfl) ?_
        refine va_get hx hb hts n7_ hown hK hP 0 rfl rfl 2 (Nat.le_of_ble_eq_true rfl) k2_ (fun _ h => h) rfl dX7_shotOf_27 ?_
        refine va_getN hx hb hts n1_ hown hK hP 1 rfl rfl 6 (Nat.le_of_ble_eq_true rfl) (hN.get 12 rfl) (fun _ h => h) rfl dX7_shotOf_30 ?_
        refine lv_iconst (v := (0 : Int32)) hx hb dX7_shotOf_33 (by decide) ?_
        refine va_iald hx hb hK hP 16 0 rfl rfl (show ¬ ((0 : Int32) < 0 ∨ 6 ≤ (0 : Int32).toNatClampNeg) by decide) dX7_shotOf_34 ?_
        obtain ⟨q4, hq4, hf⟩ := ob hf
        refine cl_RV (As := [.int x1, .int x2, .int (st (0 : Int32).toNatClampNeg)]) (rest := []) hF hP hD (c_X6_tell (a 13) (a 14) x1 x2 (st (0 : Int32).toNatClampNeg) sF sk sm q4 hq4) (cwV 3 hts gX7_shotOf_X6_tell rfl rfl rfl (by decide +kernel) ⟨(Nat.le_of_ble_eq_true rfl), (Nat.le_of_ble_eq_true rfl)⟩) [14, 15] rfl (by decide +kernel) (va_recv hK hP (ci := 6) (q0 := 14) rfl rfl) rfl rfl hl.1 (Nat.le_of_ble_eq_true rfl) dX7_shotOf_35 ⟨Nat.zero_le _, Nat.zero_le _⟩ ?_
        obtain rfl := Option.some.inj hf
        exact ret 38 ls _ dX7_shotOf_38 rfl rfl
      · replace hf := ie hc3 hf
        refine lv_ldc hx hb hown k1_ dX7_shotOf_14 ?_
        obtain rfl := Option.some.inj hf
        exact ret 16 ls _ dX7_shotOf_16 rfl rfl
abbrev rmX7_best : Room := { frames := 4, cells := 0, slots := 0, locals := 92 }
set_option maxHeartbeats 4000000 in
set_option maxRecDepth 100000 in
theorem c_X7_best (t0 : Nat) (t1 : Nat) (t2 : Nat) (a : Nat → Nat) (x1 : Int32) (nw : Nat) (sp : Nat) (pA : Nat → Int32) (pM : Nat → Int32) (pn : Int32) (pt : Int32) (d0 : Int32) (w0 : Int32) (g0 : Int32) (k0 : Int32) (d1 : Int32) (w1 : Int32) (g1 : Int32) (k1 : Int32) (qA : Nat → Int32) (qM : Nat → Int32) (qn : Int32) (qt : Int32) (uA : Nat → Int32) (uM : Nat → Int32) (un : Int32) (ut : Int32) (sF : Nat → Int32) (sk : Int32) (sm : Int32) (st : Nat → Int32) (se : Int32) (fi : Int32) (gr : Int32) (br : Int32) (pu : Int32) (nr : Int32) (R : Int32) (hf : f_X7_best x1 nw sF sk st = some R) : RdI l yX7_best wsX7_best rmX7_best D cI cC (w_topq cI cC t0 t1 t2 a nw sp pA pM pn pt d0 w0 g0 k0 d1 w1 g1 k1 qA qM qn qt uA uM un ut sF sk sm st se fi gr br pu nr) [.ref t0, .int x1] R := by
  refine en_R (cc := cX7_best) (n := 2) (by decide) rfl (Nat.le_of_ble_eq_true rfl) ?_
  intro p e s m args below meth c Q AA ls hx hb hml hown hts hK hN hP hD hl ret
  have hown : s.vm.findClass RX7 = some m.cls := hown
  have hF : FX p m c cX7_best 2 s args wsX7_best RX7 D cI cC := ⟨⟨hx, hb, hml, hown, hts⟩, hK, hN⟩
  have hl : lv_has ls 2 [(0, .ref t0), (1, .int x1)] := hl
  have k1_ := hts (.constant RX7 71 (-1000001)) (List.mem_of_getElem? (i := 1) rfl)
  have k2_ := hts (.fieldLink RX7 26 "DriftGrinders" "now" "LDriftGrinders$Grinder;") (List.mem_of_getElem? (i := 2) rfl)
  have n1_ : ∀ w ∈ wsX10, w ∈ wsX7_best := fun _ h => List.mem_cons_of_mem _ (List.mem_append_left _ (List.mem_append_right _ h))
  have n7_ : ∀ w ∈ wsX70, w ∈ wsX7_best := fun _ h => List.mem_cons_of_mem _ (List.mem_append_left _ (List.mem_append_left _ (List.mem_append_right _ h)))
  rw [f_X7_best] at hf
  refine lv_iload_n hx hb dX7_best_0 rfl (lv_at hl 1 rfl) ?_
  refine lv_if_ge (tgt := 7) hx hb dX7_best_1 (by decide) (fun hc1 => ?_) (fun hc1 => ?_)
  · replace hf := it hc1 hf
    refine lv_aload_n hx hb dX7_best_7 rfl (lv_at hl 0 rfl) ?_
    refine va_get hx hb hts n7_ hown hK hP 0 rfl rfl 2 (Nat.le_of_ble_eq_true rfl) k2_ (fun _ h => h) rfl dX7_best_8 ?_
    refine va_getN hx hb hts n1_ hown hK hP 1 rfl rfl 5 (Nat.le_of_ble_eq_true rfl) (hN.get 11 rfl) (fun _ h => h) rfl dX7_best_11 ?_
    refine lv_iload_n hx hb dX7_best_14 rfl (lv_at hl 1 rfl) ?_
    refine lv_aload_n hx hb dX7_best_15 rfl (lv_at hl 0 rfl) ?_
    refine va_get hx hb hts n7_ hown hK hP 0 rfl rfl 2 (Nat.le_of_ble_eq_true rfl) k2_ (fun _ h => h) rfl dX7_best_16 ?_
    refine va_getN hx hb hts n1_ hown hK hP 1 rfl rfl 6 (Nat.le_of_ble_eq_true rfl) (hN.get 12 rfl) (fun _ h => h) rfl dX7_best_19 ?_
    refine lv_iconst (v := (0 : Int32)) hx hb dX7_best_22 (by decide) ?_
    refine va_iald hx hb hK hP 16 0 rfl rfl (show ¬ ((0 : Int32) < 0 ∨ 6 ≤ (0 : Int32).toNatClampNeg) by decide) dX7_best_23 ?_
    obtain ⟨q2, hq2, hf⟩ := ob hf
    refine cl_RV (As := [.int x1, .int (st (0 : Int32).toNatClampNeg)]) (rest := []) hF hP hD (c_X6_numberAtPlace (a 13) (a 14) x1 (st (0 : Int32).toNatClampNeg) sF sk sm q2 hq2) (cwV 2 hts gX7_best_X6_numberAtPlace rfl rfl rfl (by decide +kernel) ⟨(Nat.le_of_ble_eq_true rfl), (Nat.le_of_ble_eq_true rfl)⟩) [14, 15] rfl (by decide +kernel) (va_recv hK hP (ci := 6) (q0 := 14) rfl rfl) rfl rfl hl.1 (Nat.le_of_ble_eq_true rfl) dX7_best_24 ⟨Nat.zero_le _, Nat.zero_le _⟩ ?_
    obtain rfl := Option.some.inj hf
    exact ret 27 ls _ dX7_best_27 rfl rfl
  · replace hf := ie hc1 hf
    refine lv_ldc hx hb hown k1_ dX7_best_4 ?_
    obtain rfl := Option.some.inj hf
    exact ret 6 ls _ dX7_best_6 rfl rfl
abbrev rmX7_dialFor : Room := { frames := 4, cells := 0, slots := 0, locals := 89 }
set_option maxHeartbeats 4000000 in
set_option maxRecDepth 100000 in
theorem c_X7_dialFor (t0 : Nat) (t1 : Nat) (t2 : Nat) (a : Nat → Nat) (x1 : Int32) (x2 : Int32) (nw : Nat) (sp : Nat) (pA : Nat → Int32) (pM : Nat → Int32) (pn : Int32) (pt : Int32) (d0 : Int32) (w0 : Int32) (g0 : Int32) (k0 : Int32) (d1 : Int32) (w1 : Int32) (g1 : Int32) (k1 : Int32) (qA : Nat → Int32) (qM : Nat → Int32) (qn : Int32) (qt : Int32) (uA : Nat → Int32) (uM : Nat → Int32) (un : Int32) (ut : Int32) (sF : Nat → Int32) (sk : Int32) (sm : Int32) (st : Nat → Int32) (se : Int32) (fi : Int32) (gr : Int32) (br : Int32) (pu : Int32) (nr : Int32) (R : Int32) (hf : f_X7_dialFor x1 x2 nw w0 w1 st = some R) : RdI l yX7_dialFor wsX7_dialFor rmX7_dialFor D cI cC (w_topq cI cC t0 t1 t2 a nw sp pA pM pn pt d0 w0 g0 k0 d1 w1 g1 k1 qA qM qn qt uA uM un ut sF sk sm st se fi gr br pu nr) [.ref t0, .int x1, .int x2] R := by
  refine en_R (cc := cX7_dialFor) (n := 3) (by decide) rfl (Nat.le_of_ble_eq_true rfl) ?_
  intro p e s m args below meth c Q AA ls hx hb hml hown hts hK hN hP hD hl ret
  have hown : s.vm.findClass RX7 = some m.cls := hown
  have hF : FX p m c cX7_dialFor 3 s args wsX7_dialFor RX7 D cI cC := ⟨⟨hx, hb, hml, hown, hts⟩, hK, hN⟩
  have hl : lv_has ls 3 [(0, .ref t0), (1, .int x1), (2, .int x2)] := hl
  have k1_ := hts (.constant RX7 71 (-1000001)) (List.mem_of_getElem? (i := 1) rfl)
  have k2_ := hts (.fieldLink RX7 26 "DriftGrinders" "now" "LDriftGrinders$Grinder;") (List.mem_of_getElem? (i := 2) rfl)
  have n7_ : ∀ w ∈ wsX70, w ∈ wsX7_dialFor := fun _ h => List.mem_cons_of_mem _ (List.mem_append_left _ (List.mem_append_left _ (List.mem_append_right _ h)))
  rw [f_X7_dialFor] at hf
  refine lv_iload_n hx hb dX7_dialFor_0 rfl (lv_at hl 1 rfl) ?_
  obtain ⟨q1, hq1, hf⟩ := ob hf
  refine cl_RS (As := [.int x1]) (rest := []) hF hP hD (c_X7_isZeroOrOne x1 q1 hq1) (va_cwS 1 hts gX7_dialFor_X7_isZeroOrOne rfl rfl rfl (by decide +kernel) ⟨(Nat.le_of_ble_eq_true rfl), (Nat.le_of_ble_eq_true rfl)⟩) [] rfl (by decide +kernel) rfl rfl hl.1 (Nat.le_of_ble_eq_true rfl) dX7_dialFor_1 ⟨Nat.zero_le _, Nat.zero_le _⟩ ?_
  refine lv_if_eq (tgt := 14) hx hb dX7_dialFor_4 (by decide) (fun hc2 => ?_) (fun hc2 => ?_)
  · replace hf := it hc2 hf
    refine lv_ldc hx hb hown k1_ dX7_dialFor_14 ?_
    obtain rfl := Option.some.inj hf
    exact ret 16 ls _ dX7_dialFor_16 rfl rfl
  · replace hf := ie hc2 hf
    refine lv_iload_n hx hb dX7_dialFor_7 rfl (lv_at hl 2 rfl) ?_
    obtain ⟨q3, hq3, hf⟩ := ob hf
    refine cl_RS (As := [.int x2]) (rest := []) hF hP hD (c_X7_isZeroOrOne x2 q3 hq3) (va_cwS 1 hts gX7_dialFor_X7_isZeroOrOne rfl rfl rfl (by decide +kernel) ⟨(Nat.le_of_ble_eq_true rfl), (Nat.le_of_ble_eq_true rfl)⟩) [] rfl (by decide +kernel) rfl rfl hl.1 (Nat.le_of_ble_eq_true rfl) dX7_dialFor_8 ⟨Nat.zero_le _, Nat.zero_le _⟩ ?_
    refine lv_if_ne (tgt := 17) hx hb dX7_dialFor_11 (by decide) (fun hc4 => ?_) (fun hc4 => ?_)
    · replace hf := ie hc4 hf
      refine lv_aload_n hx hb dX7_dialFor_17 rfl (lv_at hl 0 rfl) ?_
      refine va_get hx hb hts n7_ hown hK hP 0 rfl rfl 2 (Nat.le_of_ble_eq_true rfl) k2_ (fun _ h => h) rfl dX7_dialFor_18 ?_
      refine lv_aload_n hx hb dX7_dialFor_21 rfl (lv_at hl 0 rfl) ?_
      refine va_get hx hb hts n7_ hown hK hP 0 rfl rfl 2 (Nat.le_of_ble_eq_true rfl) k2_ (fun _ h => h) rfl dX7_dialFor_22 ?_
      refine lv_iload_n hx hb dX7_dialFor_25 rfl (lv_at hl 1 rfl) ?_
      by_cases hc5 : x1 = 0
      · replace hf := it hc5 hf
        refine cl_AV (As := [.int x1]) (rest := [.ref nw]) hF hP hD (c_X1_burrNumbered_0 nw a x1 pA pM pn pt d0 w0 g0 k0 d1 w1 g1 k1 qA qM qn qt uA uM un ut sF sk sm st se fi gr br pu nr hc5) (cwV 1 hts gX7_dialFor_X1_burrNumbered rfl rfl rfl (by decide +kernel) ⟨(Nat.le_of_ble_eq_true rfl), (Nat.le_of_ble_eq_true rfl)⟩) [1, 2, 3, 4, 5, 6, 7, 8, 9, 10, 11, 12, 13, 14, 15, 16] rfl (by decide +kernel) (va_recv hK hP (ci := 1) (q0 := 1) rfl rfl) rfl rfl hl.1 (Nat.le_of_ble_eq_true rfl) dX7_dialFor_26 ⟨Nat.zero_le _, Nat.zero_le _⟩ ?_
        refine lv_iload_n hx hb dX7_dialFor_29 rfl (lv_at hl 2 rfl) ?_
        obtain ⟨q6, hq6, hf⟩ := ob hf
        refine cl_RV (As := [.ref (a 5), .int x2]) (rest := []) hF hP hD (c_X1_nearestDial_0 nw a x2 pA pM pn pt d0 w0 g0 k0 d1 w1 g1 k1 qA qM qn qt uA uM un ut sF sk sm st se fi gr br pu nr q6 hq6) (cwV 2 hts gX7_dialFor_X1_nearestDial rfl rfl rfl (by decide +kernel) ⟨(Nat.le_of_ble_eq_true rfl), (Nat.le_of_ble_eq_true rfl)⟩) [1, 2, 3, 4, 5, 6, 7, 8, 9, 10, 11, 12, 13, 14, 15, 16] rfl (by decide +kernel) (va_recv hK hP (ci := 1) (q0 := 1) rfl rfl) rfl rfl hl.1 (Nat.le_of_ble_eq_true rfl) dX7_dialFor_30 ⟨Nat.zero_le _, Nat.zero_le _⟩ ?_
        obtain rfl := Option.some.inj hf
        exact ret 33 ls _ dX7_dialFor_33 rfl rfl
      · replace hf := ie hc5 hf
        refine cl_AV (As := [.int x1]) (rest := [.ref nw]) hF hP hD (c_X1_burrNumbered_1 nw a x1 pA pM pn pt d0 w0 g0 k0 d1 w1 g1 k1 qA qM qn qt uA uM un ut sF sk sm st se fi gr br pu nr hc5) (cwV 1 hts gX7_dialFor_X1_burrNumbered rfl rfl rfl (by decide +kernel) ⟨(Nat.le_of_ble_eq_true rfl), (Nat.le_of_ble_eq_true rfl)⟩) [1, 2, 3, 4, 5, 6, 7, 8, 9, 10, 11, 12, 13, 14, 15, 16] rfl (by decide +kernel) (va_recv hK hP (ci := 1) (q0 := 1) rfl rfl) rfl rfl hl.1 (Nat.le_of_ble_eq_true rfl) dX7_dialFor_26 ⟨Nat.zero_le _, Nat.zero_le _⟩ ?_
        refine lv_iload_n hx hb dX7_dialFor_29 rfl (lv_at hl 2 rfl) ?_
        obtain ⟨q7, hq7, hf⟩ := ob hf
        refine cl_RV (As := [.ref (a 6), .int x2]) (rest := []) hF hP hD (c_X1_nearestDial_1 nw a x2 pA pM pn pt d0 w0 g0 k0 d1 w1 g1 k1 qA qM qn qt uA uM un ut sF sk sm st se fi gr br pu nr q7 hq7) (cwV 2 hts gX7_dialFor_X1_nearestDial rfl rfl rfl (by decide +kernel) ⟨(Nat.le_of_ble_eq_true rfl), (Nat.le_of_ble_eq_true rfl)⟩) [1, 2, 3, 4, 5, 6, 7, 8, 9, 10, 11, 12, 13, 14, 15, 16] rfl (by decide +kernel) (va_recv hK hP (ci := 1) (q0 := 1) rfl rfl) rfl rfl hl.1 (Nat.le_of_ble_eq_true rfl) dX7_dialFor_30 ⟨Nat.zero_le _, Nat.zero_le _⟩ ?_
        obtain rfl := Option.some.inj hf
        exact ret 33 ls _ dX7_dialFor_33 rfl rfl
    · replace hf := it hc4 hf
      refine lv_ldc hx hb hown k1_ dX7_dialFor_14 ?_
      obtain rfl := Option.some.inj hf
      exact ret 16 ls _ dX7_dialFor_16 rfl rfl
abbrev rmX7_stale : Room := { frames := 4, cells := 0, slots := 0, locals := 84 }
set_option maxHeartbeats 4000000 in
set_option maxRecDepth 100000 in
theorem c_X7_stale (t0 : Nat) (t1 : Nat) (t2 : Nat) (a : Nat → Nat) (x1 : Int32) (nw : Nat) (sp : Nat) (pA : Nat → Int32) (pM : Nat → Int32) (pn : Int32) (pt : Int32) (d0 : Int32) (w0 : Int32) (g0 : Int32) (k0 : Int32) (d1 : Int32) (w1 : Int32) (g1 : Int32) (k1 : Int32) (qA : Nat → Int32) (qM : Nat → Int32) (qn : Int32) (qt : Int32) (uA : Nat → Int32) (uM : Nat → Int32) (un : Int32) (ut : Int32) (sF : Nat → Int32) (sk : Int32) (sm : Int32) (st : Nat → Int32) (se : Int32) (fi : Int32) (gr : Int32) (br : Int32) (pu : Int32) (nr : Int32) (R : Int32) (hf : f_X7_stale x1 nw pM pn d0 w0 d1 w1 qA qM qn = some R) : RdI l yX7_stale wsX7_stale rmX7_stale D cI cC (w_topq cI cC t0 t1 t2 a nw sp pA pM pn pt d0 w0 g0 k0 d1 w1 g1 k1 qA qM qn qt uA uM un ut sF sk sm st se fi gr br pu nr) [.ref t0, .int x1] R := by
  refine en_R (cc := cX7_stale) (n := 2) (by decide) rfl (Nat.le_of_ble_eq_true rfl) ?_
  intro p e s m args below meth c Q AA ls hx hb hml hown hts hK hN hP hD hl ret
  have hown : s.vm.findClass RX7 = some m.cls := hown
  have hF : FX p m c cX7_stale 2 s args wsX7_stale RX7 D cI cC := ⟨⟨hx, hb, hml, hown, hts⟩, hK, hN⟩
  have hl : lv_has ls 2 [(0, .ref t0), (1, .int x1)] := hl
  have k1_ := hts (.constant RX7 71 (-1000001)) (List.mem_of_getElem? (i := 1) rfl)
  have k2_ := hts (.fieldLink RX7 26 "DriftGrinders" "now" "LDriftGrinders$Grinder;") (List.mem_of_getElem? (i := 2) rfl)
  have n7_ : ∀ w ∈ wsX70, w ∈ wsX7_stale := fun _ h => List.mem_cons_of_mem _ (List.mem_append_left _ (List.mem_append_left _ (List.mem_append_left _ (List.mem_append_left _ (List.mem_append_right _ h)))))
  rw [f_X7_stale] at hf
  refine lv_iload_n hx hb dX7_stale_0 rfl (lv_at hl 1 rfl) ?_
  obtain ⟨q1, hq1, hf⟩ := ob hf
  refine cl_RS (As := [.int x1]) (rest := []) hF hP hD (c_X7_isZeroOrOne x1 q1 hq1) (va_cwS 1 hts gX7_stale_X7_isZeroOrOne rfl rfl rfl (by decide +kernel) ⟨(Nat.le_of_ble_eq_true rfl), (Nat.le_of_ble_eq_true rfl)⟩) [] rfl (by decide +kernel) rfl rfl hl.1 (Nat.le_of_ble_eq_true rfl) dX7_stale_1 ⟨Nat.zero_le _, Nat.zero_le _⟩ ?_
  refine lv_if_ne (tgt := 10) hx hb dX7_stale_4 (by decide) (fun hc2 => ?_) (fun hc2 => ?_)
  · replace hf := ie hc2 hf
    refine lv_aload_n hx hb dX7_stale_10 rfl (lv_at hl 0 rfl) ?_
    refine va_get hx hb hts n7_ hown hK hP 0 rfl rfl 2 (Nat.le_of_ble_eq_true rfl) k2_ (fun _ h => h) rfl dX7_stale_11 ?_
    refine lv_iload_n hx hb dX7_stale_14 rfl (lv_at hl 1 rfl) ?_
    obtain ⟨q3, hq3, hf⟩ := ob hf
    refine cl_RV (As := [.int x1]) (rest := []) hF hP hD (c_X1_staleFor nw a x1 pA pM pn pt d0 w0 g0 k0 d1 w1 g1 k1 qA qM qn qt uA uM un ut sF sk sm st se fi gr br pu nr q3 hq3) (cwV 1 hts gX7_stale_X1_staleFor rfl rfl rfl (by decide +kernel) ⟨(Nat.le_of_ble_eq_true rfl), (Nat.le_of_ble_eq_true rfl)⟩) [1, 2, 3, 4, 5, 6, 7, 8, 9, 10, 11, 12, 13, 14, 15, 16] rfl (by decide +kernel) (va_recv hK hP (ci := 1) (q0 := 1) rfl rfl) rfl rfl hl.1 (Nat.le_of_ble_eq_true rfl) dX7_stale_15 ⟨Nat.zero_le _, Nat.zero_le _⟩ ?_
    obtain rfl := Option.some.inj hf
    exact ret 18 ls _ dX7_stale_18 rfl rfl
  · replace hf := it hc2 hf
    refine lv_ldc hx hb hown k1_ dX7_stale_7 ?_
    obtain rfl := Option.some.inj hf
    exact ret 9 ls _ dX7_stale_9 rfl rfl
abbrev rmX7_coolAfter : Room := { frames := 4, cells := 0, slots := 0, locals := 66 }
set_option maxHeartbeats 4000000 in
set_option maxRecDepth 100000 in
theorem c_X7_coolAfter (t0 : Nat) (t1 : Nat) (t2 : Nat) (a : Nat → Nat) (x1 : Int32) (x2 : Int32) (nw : Nat) (sp : Nat) (pA : Nat → Int32) (pM : Nat → Int32) (pn : Int32) (pt : Int32) (d0 : Int32) (w0 : Int32) (g0 : Int32) (k0 : Int32) (d1 : Int32) (w1 : Int32) (g1 : Int32) (k1 : Int32) (qA : Nat → Int32) (qM : Nat → Int32) (qn : Int32) (qt : Int32) (uA : Nat → Int32) (uM : Nat → Int32) (un : Int32) (ut : Int32) (sF : Nat → Int32) (sk : Int32) (sm : Int32) (st : Nat → Int32) (se : Int32) (fi : Int32) (gr : Int32) (br : Int32) (pu : Int32) (nr : Int32) (R : Int32) (hf : f_X7_coolAfter x1 x2 nw w0 w1 se = some R) : RdI l yX7_coolAfter wsX7_coolAfter rmX7_coolAfter D cI cC (w_topq cI cC t0 t1 t2 a nw sp pA pM pn pt d0 w0 g0 k0 d1 w1 g1 k1 qA qM qn qt uA uM un ut sF sk sm st se fi gr br pu nr) [.ref t0, .int x1, .int x2] R := by
  refine en_R (cc := cX7_coolAfter) (n := 3) (by decide) rfl (Nat.le_of_ble_eq_true rfl) ?_
  intro p e s m args below meth c Q AA ls hx hb hml hown hts hK hN hP hD hl ret
  have hown : s.vm.findClass RX7 = some m.cls := hown
  have hF : FX p m c cX7_coolAfter 3 s args wsX7_coolAfter RX7 D cI cC := ⟨⟨hx, hb, hml, hown, hts⟩, hK, hN⟩
  have hl : lv_has ls 3 [(0, .ref t0), (1, .int x1), (2, .int x2)] := hl
  have k1_ := hts (.constant RX7 71 (-1000001)) (List.mem_of_getElem? (i := 1) rfl)
  have k2_ := hts (.fieldLink RX7 26 "DriftGrinders" "now" "LDriftGrinders$Grinder;") (List.mem_of_getElem? (i := 2) rfl)
  have n7_ : ∀ w ∈ wsX70, w ∈ wsX7_coolAfter := fun _ h => List.mem_cons_of_mem _ (List.mem_append_left _ (List.mem_append_left _ (List.mem_append_right _ h)))
  rw [f_X7_coolAfter] at hf
  refine lv_iload_n hx hb dX7_coolAfter_0 rfl (lv_at hl 1 rfl) ?_
  obtain ⟨q1, hq1, hf⟩ := ob hf
  refine cl_RS (As := [.int x1]) (rest := []) hF hP hD (c_X7_isZeroOrOne x1 q1 hq1) (va_cwS 1 hts gX7_coolAfter_X7_isZeroOrOne rfl rfl rfl (by decide +kernel) ⟨(Nat.le_of_ble_eq_true rfl), (Nat.le_of_ble_eq_true rfl)⟩) [] rfl (by decide +kernel) rfl rfl hl.1 (Nat.le_of_ble_eq_true rfl) dX7_coolAfter_1 ⟨Nat.zero_le _, Nat.zero_le _⟩ ?_
  refine lv_if_eq (tgt := 18) hx hb dX7_coolAfter_4 (by decide) (fun hc2 => ?_) (fun hc2 => ?_)
  · replace hf := it hc2 hf
    refine lv_ldc hx hb hown k1_ dX7_coolAfter_18 ?_
    obtain rfl := Option.some.inj hf
    exact ret 20 ls _ dX7_coolAfter_20 rfl rfl
  · replace hf := ie hc2 hf
    refine lv_iload_n hx hb dX7_coolAfter_7 rfl (lv_at hl 2 rfl) ?_
    refine lv_if_lt (tgt := 18) hx hb dX7_coolAfter_8 (by decide) (fun hc3 => ?_) (fun hc3 => ?_)
    · replace hf := it hc3 hf
      refine lv_ldc hx hb hown k1_ dX7_coolAfter_18 ?_
      obtain rfl := Option.some.inj hf
      exact ret 20 ls _ dX7_coolAfter_20 rfl rfl
    · replace hf := ie hc3 hf
      refine lv_iload_n hx hb dX7_coolAfter_11 rfl (lv_at hl 2 rfl) ?_
      refine lv_sipush (v := (300 : Int32)) hx hb dX7_coolAfter_12 (by decide) ?_
      refine lv_icmp_le (tgt := 21) hx hb dX7_coolAfter_15 (by decide) (fun hc4 => ?_) (fun hc4 => ?_)
      · replace hf := it hc4 hf
        refine lv_aload_n hx hb dX7_coolAfter_21 rfl (lv_at hl 0 rfl) ?_
        refine va_get hx hb hts n7_ hown hK hP 0 rfl rfl 2 (Nat.le_of_ble_eq_true rfl) k2_ (fun _ h => h) rfl dX7_coolAfter_22 ?_
        refine lv_aload_n hx hb dX7_coolAfter_25 rfl (lv_at hl 0 rfl) ?_
        refine va_get hx hb hts n7_ hown hK hP 0 rfl rfl 2 (Nat.le_of_ble_eq_true rfl) k2_ (fun _ h => h) rfl dX7_coolAfter_26 ?_
        refine lv_iload_n hx hb dX7_coolAfter_29 rfl (lv_at hl 1 rfl) ?_
        by_cases hc5 : x1 = 0
        · replace hf := it hc5 hf
          refine cl_AV (As := [.int x1]) (rest := [.ref nw]) hF hP hD (c_X1_burrNumbered_0 nw a x1 pA pM pn pt d0 w0 g0 k0 d1 w1 g1 k1 qA qM qn qt uA uM un ut sF sk sm st se fi gr br pu nr hc5) (cwV 1 hts gX7_coolAfter_X1_burrNumbered rfl rfl rfl (by decide +kernel) ⟨(Nat.le_of_ble_eq_true rfl), (Nat.le_of_ble_eq_true rfl)⟩) [1, 2, 3, 4, 5, 6, 7, 8, 9, 10, 11, 12, 13, 14, 15, 16] rfl (by decide +kernel) (va_recv hK hP (ci := 1) (q0 := 1) rfl rfl) rfl rfl hl.1 (Nat.le_of_ble_eq_true rfl) dX7_coolAfter_30 ⟨Nat.zero_le _, Nat.zero_le _⟩ ?_
          refine lv_iload_n hx hb dX7_coolAfter_33 rfl (lv_at hl 2 rfl) ?_
          obtain ⟨q6, hq6, hf⟩ := ob hf
          refine cl_RV (As := [.ref (a 5), .int x2]) (rest := []) hF hP hD (c_X1_secondsToCool_0 nw a x2 pA pM pn pt d0 w0 g0 k0 d1 w1 g1 k1 qA qM qn qt uA uM un ut sF sk sm st se fi gr br pu nr q6 hq6) (cwV 2 hts gX7_coolAfter_X1_secondsToCool rfl rfl rfl (by decide +kernel) ⟨(Nat.le_of_ble_eq_true rfl), (Nat.le_of_ble_eq_true rfl)⟩) [1, 2, 3, 4, 5, 6, 7, 8, 9, 10, 11, 12, 13, 14, 15, 16] rfl (by decide +kernel) (va_recv hK hP (ci := 1) (q0 := 1) rfl rfl) rfl rfl hl.1 (Nat.le_of_ble_eq_true rfl) dX7_coolAfter_34 ⟨Nat.zero_le _, Nat.zero_le _⟩ ?_
          obtain rfl := Option.some.inj hf
          exact ret 37 ls _ dX7_coolAfter_37 rfl rfl
        · replace hf := ie hc5 hf
          refine cl_AV (As := [.int x1]) (rest := [.ref nw]) hF hP hD (c_X1_burrNumbered_1 nw a x1 pA pM pn pt d0 w0 g0 k0 d1 w1 g1 k1 qA qM qn qt uA uM un ut sF sk sm st se fi gr br pu nr hc5) (cwV 1 hts gX7_coolAfter_X1_burrNumbered rfl rfl rfl (by decide +kernel) ⟨(Nat.le_of_ble_eq_true rfl), (Nat.le_of_ble_eq_true rfl)⟩) [1, 2, 3, 4, 5, 6, 7, 8, 9, 10, 11, 12, 13, 14, 15, 16] rfl (by decide +kernel) (va_recv hK hP (ci := 1) (q0 := 1) rfl rfl) rfl rfl hl.1 (Nat.le_of_ble_eq_true rfl) dX7_coolAfter_30 ⟨Nat.zero_le _, Nat.zero_le _⟩ ?_
          refine lv_iload_n hx hb dX7_coolAfter_33 rfl (lv_at hl 2 rfl) ?_
          obtain ⟨q7, hq7, hf⟩ := ob hf
          refine cl_RV (As := [.ref (a 6), .int x2]) (rest := []) hF hP hD (c_X1_secondsToCool_1 nw a x2 pA pM pn pt d0 w0 g0 k0 d1 w1 g1 k1 qA qM qn qt uA uM un ut sF sk sm st se fi gr br pu nr q7 hq7) (cwV 2 hts gX7_coolAfter_X1_secondsToCool rfl rfl rfl (by decide +kernel) ⟨(Nat.le_of_ble_eq_true rfl), (Nat.le_of_ble_eq_true rfl)⟩) [1, 2, 3, 4, 5, 6, 7, 8, 9, 10, 11, 12, 13, 14, 15, 16] rfl (by decide +kernel) (va_recv hK hP (ci := 1) (q0 := 1) rfl rfl) rfl rfl hl.1 (Nat.le_of_ble_eq_true rfl) dX7_coolAfter_34 ⟨Nat.zero_le _, Nat.zero_le _⟩ ?_
          obtain rfl := Option.some.inj hf
          exact ret 37 ls _ dX7_coolAfter_37 rfl rfl
      · replace hf := ie hc4 hf
        refine lv_ldc hx hb hown k1_ dX7_coolAfter_18 ?_
        obtain rfl := Option.some.inj hf
        exact ret 20 ls _ dX7_coolAfter_20 rfl rfl
abbrev rmX7_count : Room := { frames := 3, cells := 0, slots := 0, locals := 42 }
set_option maxHeartbeats 4000000 in
set_option maxRecDepth 100000 in
theorem c_X7_count (t0 : Nat) (t1 : Nat) (t2 : Nat) (t3 : Nat) (a : Nat → Nat) (x1 : Int32) (nw : Nat) (sp : Nat) (yl : Nat) (ys : Nat) (yt : Nat) (yo : Nat) (yn : Int32) (sg : Nat → Int32) (oL : Int32) (oA : Int32) (oC : Int32) (oF : Int32) (oS : Int32) (oD : Int32) (oP : Int32) (oR : Int32) (oU : Int32) (pA : Nat → Int32) (pM : Nat → Int32) (pn : Int32) (pt : Int32) (d0 : Int32) (w0 : Int32) (g0 : Int32) (k0 : Int32) (d1 : Int32) (w1 : Int32) (g1 : Int32) (k1 : Int32) (qA : Nat → Int32) (qM : Nat → Int32) (qn : Int32) (qt : Int32) (uA : Nat → Int32) (uM : Nat → Int32) (un : Int32) (ut : Int32) (sF : Nat → Int32) (sk : Int32) (sm : Int32) (st : Nat → Int32) (se : Int32) (fi : Int32) (gr : Int32) (br : Int32) (pu : Int32) (nr : Int32) (R : Int32) (hf : f_X7_count x1 nw yn oL pt qt ut sm st se fi gr br pu nr = some R) : RdI l yX7_count wsX7_count rmX7_count D cI cC (w_tophoq cI cC t0 t1 t2 t3 a nw sp yl ys yt yo yn sg oL oA oC oF oS oD oP oR oU pA pM pn pt d0 w0 g0 k0 d1 w1 g1 k1 qA qM qn qt uA uM un ut sF sk sm st se fi gr br pu nr) [.ref t0, .int x1] R := by
  refine en_R (cc := cX7_count) (n := 2) (by decide) rfl (Nat.le_of_ble_eq_true rfl) ?_
  intro p e s m args below meth c Q AA ls hx hb hml hown hts hK hN hP hD hl ret
  have hown : s.vm.findClass RX7 = some m.cls := hown
  have hF : FX p m c cX7_count 2 s args wsX7_count RX7 D cI cC := ⟨⟨hx, hb, hml, hown, hts⟩, hK, hN⟩
  have hl : lv_has ls 2 [(0, .ref t0), (1, .int x1)] := hl
  have k1_ := hts (.fieldLink RX7 10 "DriftGrinders" "history" "LDriftGrinders$History;") (List.mem_of_getElem? (i := 1) rfl)
  have k2_ := hts (.fieldLink RX7 19 "DriftGrinders" "text" "LDriftGrinders$Orders;") (List.mem_of_getElem? (i := 2) rfl)
  have k3_ := hts (.fieldLink RX7 26 "DriftGrinders" "now" "LDriftGrinders$Grinder;") (List.mem_of_getElem? (i := 3) rfl)
  have n2_ : ∀ w ∈ wsX20, w ∈ wsX7_count := fun _ h => List.mem_cons_of_mem _ (List.mem_append_left _ (List.mem_append_left _ (List.mem_append_left _ (List.mem_append_left _ (List.mem_append_left _ (List.mem_append_right _ h))))))
  have n4_ : ∀ w ∈ wsX40, w ∈ wsX7_count := fun _ h => List.mem_cons_of_mem _ (List.mem_append_left _ (List.mem_append_left _ (List.mem_append_left _ (List.mem_append_left _ (List.mem_append_right _ h)))))
  have n7_ : ∀ w ∈ wsX70, w ∈ wsX7_count := fun _ h => List.mem_cons_of_mem _ (List.mem_append_left _ (List.mem_append_left _ (List.mem_append_left _ (List.mem_append_left _ (List.mem_append_left _ (List.mem_append_left _ (List.mem_append_right _ h)))))))
  rw [f_X7_count] at hf
  refine lv_iload_n hx hb dX7_count_0 rfl (lv_at hl 1 rfl) ?_
  by_cases hc1 : x1 = 10
  · replace hf := it hc1 hf
    refine lv_lookup (off := 27) (tgt := 28) hx hb dX7_count_1 (by decide) (by rw [hc1]; decide) (by decide) ?_
    refine lv_aload_n hx hb dX7_count_28 rfl (lv_at hl 0 rfl) ?_
    refine va_get hx hb hts n7_ hown hK hP 0 rfl rfl 0 (Nat.le_of_ble_eq_true rfl) k1_ (fun _ h => h) rfl dX7_count_29 ?_
    refine va_getN hx hb hts n2_ hown hK hP 1 rfl rfl 4 (Nat.le_of_ble_eq_true rfl) (hN.get 13 rfl) (fun _ h => h) rfl dX7_count_32 ?_
    obtain rfl := Option.some.inj hf
    exact ret 35 ls _ dX7_count_35 rfl rfl
  replace hf := ie hc1 hf
  by_cases hc2 : x1 = 11
  · replace hf := it hc2 hf
    refine lv_lookup (off := 35) (tgt := 36) hx hb dX7_count_1 (by decide) (by rw [hc2]; decide) (by decide) ?_
    refine lv_aload_n hx hb dX7_count_36 rfl (lv_at hl 0 rfl) ?_
    refine va_get hx hb hts n7_ hown hK hP 0 rfl rfl 1 (Nat.le_of_ble_eq_true rfl) k2_ (fun _ h => h) rfl dX7_count_37 ?_
    refine va_getN hx hb hts n4_ hown hK hP 2 rfl rfl 1 (Nat.le_of_ble_eq_true rfl) (hN.get 14 rfl) (fun _ h => h) rfl dX7_count_40 ?_
    obtain rfl := Option.some.inj hf
    exact ret 43 ls _ dX7_count_43 rfl rfl
  replace hf := ie hc2 hf
  refine lv_lookup (off := 43) (tgt := 44) hx hb dX7_count_1 (by decide) (by show Op.lookupswitch.offset [(10, 27), (11, 35)] 43 x1.toInt = _; rw [lv_osw (a := 10) hc1 rfl, lv_osw (a := 11) hc2 rfl]; rfl) (by decide) ?_
  refine lv_aload_n hx hb dX7_count_44 rfl (lv_at hl 0 rfl) ?_
  refine va_get hx hb hts n7_ hown hK hP 0 rfl rfl 2 (Nat.le_of_ble_eq_true rfl) k3_ (fun _ h => h) rfl dX7_count_45 ?_
  refine lv_iload_n hx hb dX7_count_48 rfl (lv_at hl 1 rfl) ?_
  obtain ⟨q3, hq3, hf⟩ := ob hf
  refine cl_RV (As := [.int x1]) (rest := []) hF hP hD (c_X1_tell nw a x1 pA pM pn pt d0 w0 g0 k0 d1 w1 g1 k1 qA qM qn qt uA uM un ut sF sk sm st se fi gr br pu nr q3 hq3) (cwV 1 hts gX7_count_X1_tell rfl rfl rfl (by decide +kernel) ⟨(Nat.le_of_ble_eq_true rfl), (Nat.le_of_ble_eq_true rfl)⟩) [4, 5, 6, 7, 8, 9, 10, 11, 12, 13, 14, 15, 16, 17, 18, 19] rfl (by decide +kernel) (va_recv hK hP (ci := 1) (q0 := 4) rfl rfl) rfl rfl hl.1 (Nat.le_of_ble_eq_true rfl) dX7_count_49 ⟨Nat.zero_le _, Nat.zero_le _⟩ ?_
  obtain rfl := Option.some.inj hf
  exact ret 52 ls _ dX7_count_52 rfl rfl
abbrev rmX7_undo : Room := { frames := 2, cells := 0, slots := 0, locals := 43 }
set_option maxHeartbeats 4000000 in
set_option maxRecDepth 100000 in
theorem c_X7_undo (t0 : Nat) (t1 : Nat) (t2 : Nat) (nw : Nat) (sp : Nat) (yl : Nat) (ys : Nat) (yt : Nat) (yo : Nat) (yn : Int32) (R : Int32 × Nat × Nat × Nat × Nat × Nat × Int32) (hf : f_X7_undo nw yl ys yt yo yn = some R) : WrI l yX7_undo wsX7_undo rmX7_undo D cI cC (w_toph cI cC t0 t1 t2 nw sp yl ys yt yo yn) (w_toph cI cC t0 t1 t2 R.2.1 sp R.2.2.1 R.2.2.2.1 R.2.2.2.2.1 R.2.2.2.2.2.1 R.2.2.2.2.2.2) [.ref t0] R.1 := by
  refine en_W (cc := cX7_undo) (n := 1) (by decide) rfl (Nat.le_of_ble_eq_true rfl) ?_
  intro p e s m args below meth c Q AA ls hx hb hml hown hts hK hN hP hD hS hl ret
  have hown : s.vm.findClass RX7 = some m.cls := hown
  have hF : FX p m c cX7_undo 1 s args wsX7_undo RX7 D cI cC := ⟨⟨hx, hb, hml, hown, hts⟩, hK, hN⟩
  have hl : lv_has ls 1 [(0, .ref t0)] := hl
  have k1_ := hts (.fieldLink RX7 10 "DriftGrinders" "history" "LDriftGrinders$History;") (List.mem_of_getElem? (i := 1) rfl)
  have k2_ := hts (.constant RX7 137 (-1000002)) (List.mem_of_getElem? (i := 2) rfl)
  have k3_ := hts (.fieldLink RX7 26 "DriftGrinders" "now" "LDriftGrinders$Grinder;") (List.mem_of_getElem? (i := 3) rfl)
  have n2_ : ∀ w ∈ wsX20, w ∈ wsX7_undo := fun _ h => List.mem_cons_of_mem _ (List.mem_append_right _ h)
  have n7_ : ∀ w ∈ wsX70, w ∈ wsX7_undo := fun _ h => List.mem_cons_of_mem _ (List.mem_append_left _ (List.mem_append_right _ h))
  rw [f_X7_undo] at hf
  obtain ⟨H, hH⟩ : ∃ z : Heap, z = s.heap := ⟨_, rfl⟩
  obtain ⟨locs, hL⟩ : ∃ z : List Loc, z = [] := ⟨_, rfl⟩
  replace hP := hH ▸ hP
  replace hS : va_S AA s.heap H locs := by rw [hH, hL]; exact hS
  suffices hgoal : W p l e rmX7_undo s m args below meth c H locs 0 0 Q (F0 m 0 ls []) by rw [hH, hL] at hgoal; exact hgoal
  clear hH hL
  refine lv_aload_n hx hb dX7_undo_0 rfl (lv_at hl 0 rfl) ?_
  refine va_get hx hb hts n7_ hown hK hP 0 rfl rfl 0 (Nat.le_of_ble_eq_true rfl) k1_ (fun _ h => h) rfl dX7_undo_1 ?_
  refine va_getN hx hb hts n2_ hown hK hP 1 rfl rfl 4 (Nat.le_of_ble_eq_true rfl) (hN.get 13 rfl) (fun _ h => h) rfl dX7_undo_4 ?_
  refine lv_iconst (v := (1 : Int32)) hx hb dX7_undo_7 (by decide) ?_
  refine lv_icmp_ge (tgt := 14) hx hb dX7_undo_8 (by decide) (fun hc1 => ?_) (fun hc1 => ?_)
  · replace hf := it hc1 hf
    refine lv_aload_n hx hb dX7_undo_14 rfl (lv_at hl 0 rfl) ?_
    refine lv_aload_n hx hb dX7_undo_15 rfl (lv_at hl 0 rfl) ?_
    refine va_get hx hb hts n7_ hown hK hP 0 rfl rfl 0 (Nat.le_of_ble_eq_true rfl) k1_ (fun _ h => h) rfl dX7_undo_16 ?_
    refine lv_aload_n hx hb dX7_undo_19 rfl (lv_at hl 0 rfl) ?_
    refine va_get hx hb hts n7_ hown hK hP 0 rfl rfl 2 (Nat.le_of_ble_eq_true rfl) k3_ (fun _ h => h) rfl dX7_undo_20 ?_
    obtain ⟨q2, hq2, hf⟩ := ob hf
    refine cl_WAV (W1 := (w_toph cI cC t0 t1 t2 nw sp q2.2.1 q2.2.2.1 q2.2.2.2.1 q2.2.2.2.2.1 q2.2.2.2.2.2)) (As := [.ref nw]) (rest := [.ref t0]) hF hP hD hS (c_X2_takeLatest t1 nw yl ys yt yo yn q2 hq2) (cwV 1 hts gX7_undo_X2_takeLatest rfl rfl rfl (by decide +kernel) ⟨(Nat.le_of_ble_eq_true rfl), (Nat.le_of_ble_eq_true rfl)⟩) [1] rfl (by decide +kernel) (va_recv hK hP (ci := 2) (q0 := 1) rfl rfl) rfl rfl hl.1 (Nat.le_of_ble_eq_true rfl) dX7_undo_23 ⟨Nat.zero_le _, Nat.zero_le _⟩ (hA2 [t1] rfl rfl) [0] rfl [(t0, .inr (7, [.ref t1, .ref t2, .ref nw, .ref sp]))] rfl rfl (nW := 2) rfl (by decide +kernel) (fun H locs hP hD hS => ?_)
    refine va_put hx hb hts n7_ tyX7 tyX7_ok nmX7 hown hK hP hD hS 0 rfl rfl 2 (Nat.le_of_ble_eq_true rfl) k3_ (fun _ h => h) rfl (v := .ref q2.1) (tyX7_ok 2 (Nat.le_of_ble_eq_true rfl)) rfl rfl (Nat.le_of_ble_eq_true rfl) dX7_undo_26 (fun H locs hP hD hS => ?_)
    have hP : va_P D vwCl (w_toph cI cC t0 t1 t2 q2.1 sp q2.2.1 q2.2.2.1 q2.2.2.2.1 q2.2.2.2.2.1 q2.2.2.2.2.2) H := hP
    have hD : va_D AA (w_toph cI cC t0 t1 t2 q2.1 sp q2.2.1 q2.2.2.1 q2.2.2.2.1 q2.2.2.2.2.1 q2.2.2.2.2.2) := hD
    refine lv_aload_n hx hb dX7_undo_29 rfl (lv_at hl 0 rfl) ?_
    refine va_get hx hb hts n7_ hown hK hP 0 rfl rfl 0 (Nat.le_of_ble_eq_true rfl) k1_ (fun _ h => h) rfl dX7_undo_30 ?_
    refine va_getN hx hb hts n2_ hown hK hP 1 rfl rfl 4 (Nat.le_of_ble_eq_true rfl) (hN.get 13 rfl) (fun _ h => h) rfl dX7_undo_33 ?_
    obtain rfl := Option.some.inj hf
    exact ret 36 ls _ H locs dX7_undo_36 rfl rfl hP hS
  · replace hf := ie hc1 hf
    refine lv_ldc hx hb hown k2_ dX7_undo_11 ?_
    obtain rfl := Option.some.inj hf
    exact ret 13 ls _ H locs dX7_undo_13 rfl rfl hP hS
abbrev rmX7_type : Room := { frames := 2, cells := 0, slots := 0, locals := 21 }
set_option maxHeartbeats 4000000 in
set_option maxRecDepth 100000 in
theorem c_X7_type (t0 : Nat) (t1 : Nat) (t2 : Nat) (t3 : Nat) (x1 : Int32) (nw : Nat) (sp : Nat) (sg : Nat → Int32) (oL : Int32) (oA : Int32) (oC : Int32) (oF : Int32) (oS : Int32) (oD : Int32) (oP : Int32) (oR : Int32) (oU : Int32) (R : Int32 × (Nat → Int32) × Int32) (hf : f_X7_type x1 sg oL = some R) : WrI l yX7_type wsX7_type rmX7_type D cI cC (w_topo cI cC t0 t1 t2 t3 nw sp sg oL oA oC oF oS oD oP oR oU) (w_topo cI cC t0 t1 t2 t3 nw sp R.2.1 R.2.2 oA oC oF oS oD oP oR oU) [.ref t0, .int x1] R.1 := by
  refine en_W (cc := cX7_type) (n := 2) (by decide) rfl (Nat.le_of_ble_eq_true rfl) ?_
  intro p e s m args below meth c Q AA ls hx hb hml hown hts hK hN hP hD hS hl ret
  have hown : s.vm.findClass RX7 = some m.cls := hown
  have hF : FX p m c cX7_type 2 s args wsX7_type RX7 D cI cC := ⟨⟨hx, hb, hml, hown, hts⟩, hK, hN⟩
  have hl : lv_has ls 2 [(0, .ref t0), (1, .int x1)] := hl
  have k1_ := hts (.constant RX7 71 (-1000001)) (List.mem_of_getElem? (i := 1) rfl)
  have k2_ := hts (.fieldLink RX7 19 "DriftGrinders" "text" "LDriftGrinders$Orders;") (List.mem_of_getElem? (i := 2) rfl)
  have n7_ : ∀ w ∈ wsX70, w ∈ wsX7_type := fun _ h => List.mem_cons_of_mem _ (List.mem_append_left _ (List.mem_append_right _ h))
  rw [f_X7_type] at hf
  obtain ⟨H, hH⟩ : ∃ z : Heap, z = s.heap := ⟨_, rfl⟩
  obtain ⟨locs, hL⟩ : ∃ z : List Loc, z = [] := ⟨_, rfl⟩
  replace hP := hH ▸ hP
  replace hS : va_S AA s.heap H locs := by rw [hH, hL]; exact hS
  suffices hgoal : W p l e rmX7_type s m args below meth c H locs 0 0 Q (F0 m 0 ls []) by rw [hH, hL] at hgoal; exact hgoal
  clear hH hL
  refine lv_iload_n hx hb dX7_type_0 rfl (lv_at hl 1 rfl) ?_
  refine lv_bipush (v := (32 : Int32)) hx hb dX7_type_1 (by decide) ?_
  refine lv_icmp_lt (tgt := 12) hx hb dX7_type_3 (by decide) (fun hc1 => ?_) (fun hc1 => ?_)
  · replace hf := it hc1 hf
    refine lv_ldc hx hb hown k1_ dX7_type_12 ?_
    obtain rfl := Option.some.inj hf
    exact ret 14 ls _ H locs dX7_type_14 rfl rfl hP hS
  · replace hf := ie hc1 hf
    refine lv_iload_n hx hb dX7_type_6 rfl (lv_at hl 1 rfl) ?_
    refine lv_bipush (v := (126 : Int32)) hx hb dX7_type_7 (by decide) ?_
    refine lv_icmp_le (tgt := 15) hx hb dX7_type_9 (by decide) (fun hc2 => ?_) (fun hc2 => ?_)
    · replace hf := it hc2 hf
      refine lv_aload_n hx hb dX7_type_15 rfl (lv_at hl 0 rfl) ?_
      refine va_get hx hb hts n7_ hown hK hP 0 rfl rfl 1 (Nat.le_of_ble_eq_true rfl) k2_ (fun _ h => h) rfl dX7_type_16 ?_
      refine lv_iload_n hx hb dX7_type_19 rfl (lv_at hl 1 rfl) ?_
      refine lv_i2c (v := (x1.toUInt32 % 65536).toInt32) hx hb dX7_type_20 rfl ?_
      obtain ⟨q3, hq3, hf⟩ := ob hf
      refine cl_WV (W1 := (w_topo cI cC t0 t1 t2 t3 nw sp q3.2.1 q3.2.2 oA oC oF oS oD oP oR oU)) (As := [.int (x1.toUInt32 % 65536).toInt32]) (rest := []) hF hP hD hS (c_X4_append t2 t3 ((x1.toUInt32 % 65536).toInt32) sg oL oA oC oF oS oD oP oR oU q3 hq3) (cwV 1 hts gX7_type_X4_append rfl rfl rfl (by decide +kernel) ⟨(Nat.le_of_ble_eq_true rfl), (Nat.le_of_ble_eq_true rfl)⟩) [1, 2] rfl (by decide +kernel) (va_recv hK hP (ci := 4) (q0 := 1) rfl rfl) rfl rfl hl.1 (Nat.le_of_ble_eq_true rfl) dX7_type_21 ⟨Nat.zero_le _, Nat.zero_le _⟩ (hA2 [t2, t3] rfl rfl) [0] rfl [(t0, .inr (7, [.ref t1, .ref t2, .ref nw, .ref sp]))] rfl rfl (nW := 3) rfl (by decide +kernel) (fun H locs hP hD hS => ?_)
      obtain rfl := Option.some.inj hf
      exact ret 24 ls _ H locs dX7_type_24 rfl rfl hP hS
    · replace hf := ie hc2 hf
      refine lv_ldc hx hb hown k1_ dX7_type_12 ?_
      obtain rfl := Option.some.inj hf
      exact ret 14 ls _ H locs dX7_type_14 rfl rfl hP hS
abbrev rmX7_clearText : Room := { frames := 1, cells := 0, slots := 0, locals := 0 }
set_option maxHeartbeats 4000000 in
set_option maxRecDepth 100000 in
theorem c_X7_clearText (t0 : Nat) (t1 : Nat) (t2 : Nat) (t3 : Nat) (nw : Nat) (sp : Nat) (sg : Nat → Int32) (oL : Int32) (oA : Int32) (oC : Int32) (oF : Int32) (oS : Int32) (oD : Int32) (oP : Int32) (oR : Int32) (oU : Int32) (R : Int32 × Int32) (hf : f_X7_clearText oL = some R) : WrI l yX7_clearText wsX7_clearText rmX7_clearText D cI cC (w_topo cI cC t0 t1 t2 t3 nw sp sg oL oA oC oF oS oD oP oR oU) (w_topo cI cC t0 t1 t2 t3 nw sp sg R.2 oA oC oF oS oD oP oR oU) [.ref t0] R.1 := by
  refine en_W (cc := cX7_clearText) (n := 2) (by decide) rfl (Nat.le_of_ble_eq_true rfl) ?_
  intro p e s m args below meth c Q AA ls hx hb hml hown hts hK hN hP hD hS hl ret
  have hown : s.vm.findClass RX7 = some m.cls := hown
  have hF : FX p m c cX7_clearText 2 s args wsX7_clearText RX7 D cI cC := ⟨⟨hx, hb, hml, hown, hts⟩, hK, hN⟩
  have hl : lv_has ls 2 [(0, .ref t0)] := hl
  have k1_ := hts (.fieldLink RX7 19 "DriftGrinders" "text" "LDriftGrinders$Orders;") (List.mem_of_getElem? (i := 1) rfl)
  have n4_ : ∀ w ∈ wsX40, w ∈ wsX7_clearText := fun _ h => List.mem_cons_of_mem _ (List.mem_append_right _ h)
  have n7_ : ∀ w ∈ wsX70, w ∈ wsX7_clearText := fun _ h => List.mem_cons_of_mem _ (List.mem_append_left _ (List.mem_append_right _ h))
  rw [f_X7_clearText] at hf
  obtain ⟨H, hH⟩ : ∃ z : Heap, z = s.heap := ⟨_, rfl⟩
  obtain ⟨locs, hL⟩ : ∃ z : List Loc, z = [] := ⟨_, rfl⟩
  replace hP := hH ▸ hP
  replace hS : va_S AA s.heap H locs := by rw [hH, hL]; exact hS
  suffices hgoal : W p l e rmX7_clearText s m args below meth c H locs 0 0 Q (F0 m 0 ls []) by rw [hH, hL] at hgoal; exact hgoal
  clear hH hL
  refine lv_aload_n hx hb dX7_clearText_0 rfl (lv_at hl 0 rfl) ?_
  refine va_get hx hb hts n7_ hown hK hP 0 rfl rfl 1 (Nat.le_of_ble_eq_true rfl) k1_ (fun _ h => h) rfl dX7_clearText_1 ?_
  refine va_getN hx hb hts n4_ hown hK hP 1 rfl rfl 1 (Nat.le_of_ble_eq_true rfl) (hN.get 14 rfl) (fun _ h => h) rfl dX7_clearText_4 ?_
  refine lv_istore_n (lv' := [(1, .int oL), (0, .ref t0)]) hx hb dX7_clearText_7 rfl hl (by decide) rfl (fun ls hl => ?_)
  refine lv_aload_n hx hb dX7_clearText_8 rfl (lv_at hl 1 rfl) ?_
  refine va_get hx hb hts n7_ hown hK hP 0 rfl rfl 1 (Nat.le_of_ble_eq_true rfl) k1_ (fun _ h => h) rfl dX7_clearText_9 ?_
  refine lv_iconst (v := (0 : Int32)) hx hb dX7_clearText_12 (by decide) ?_
  refine va_putN hx hb hts n4_ tyX4 tyX4_ok nmX4 hown hK hP hD hS 1 rfl rfl 1 (Nat.le_of_ble_eq_true rfl) (hN.get 14 rfl) (fun _ h => h) rfl (v := .int (0 : Int32)) (tyX4_ok 1 (Nat.le_of_ble_eq_true rfl)) rfl rfl (Nat.le_of_ble_eq_true rfl) dX7_clearText_13 (fun H locs hP hD hS => ?_)
  have hP : va_P D vwCl (w_topo cI cC t0 t1 t2 t3 nw sp sg (0 : Int32) oA oC oF oS oD oP oR oU) H := hP
  have hD : va_D AA (w_topo cI cC t0 t1 t2 t3 nw sp sg (0 : Int32) oA oC oF oS oD oP oR oU) := hD
  refine lv_iload_n hx hb dX7_clearText_16 rfl (lv_at hl 0 rfl) ?_
  obtain rfl := Option.some.inj hf
  exact ret 17 ls _ H locs dX7_clearText_17 rfl rfl hP hS
abbrev rmX7_fault : Room := { frames := 7, cells := 0, slots := 0, locals := 200 }
set_option maxHeartbeats 4000000 in
set_option maxRecDepth 100000 in
theorem c_X7_fault (t0 : Nat) (t1 : Nat) (t2 : Nat) (t3 : Nat) (a : Nat → Nat) (o : Nat → Nat) (x1 : Int32) (nw : Nat) (sp : Nat) (sg : Nat → Int32) (oL : Int32) (oA : Int32) (oC : Int32) (oF : Int32) (oS : Int32) (oD : Int32) (oP : Int32) (oR : Int32) (oU : Int32) (g : Gr) (go : Gr) (R : Int32 × Int32 × Int32 × Int32 × Int32 × Int32 × Int32 × Int32 × Int32 × Gr) (hf : f_X7_fault x1 nw sp sg oL oA oC oF oS oD oP oR oU g go = some R) : WrI l yX7_fault wsX7_fault rmX7_fault D cI cC ([(t0, .inr (7, [.ref t1, .ref t2, .ref nw, .ref sp])), (t2, .inr (4, [.ref t3, .int oL, .int oA, .int oC, .int oF, .int oS, .int oD, .int oP, .int oR, .int oU])), (t3, .inl (cC, 60, .inl sg))] ++ w_gr cI cC nw a g ++ w_gr cI cC sp o go) ([(t0, .inr (7, [.ref t1, .ref t2, .ref nw, .ref sp])), (t2, .inr (4, [.ref t3, .int oL, .int R.2.1, .int R.2.2.1, .int R.2.2.2.1, .int R.2.2.2.2.1, .int R.2.2.2.2.2.1, .int R.2.2.2.2.2.2.1, .int R.2.2.2.2.2.2.2.1, .int R.2.2.2.2.2.2.2.2.1])), (t3, .inl (cC, 60, .inl sg))] ++ w_gr cI cC nw a g ++ w_gr cI cC sp o R.2.2.2.2.2.2.2.2.2) [.ref t0, .int x1] R.1 := by
  refine en_W (cc := cX7_fault) (n := 2) (by decide) rfl (Nat.le_of_ble_eq_true rfl) ?_
  intro p e s m args below meth c Q AA ls hx hb hml hown hts hK hN hP hD hS hl ret
  have hown : s.vm.findClass RX7 = some m.cls := hown
  have hF : FX p m c cX7_fault 2 s args wsX7_fault RX7 D cI cC := ⟨⟨hx, hb, hml, hown, hts⟩, hK, hN⟩
  have hl : lv_has ls 2 [(0, .ref t0), (1, .int x1)] := hl
  have k1_ := hts (.constant RX7 71 (-1000001)) (List.mem_of_getElem? (i := 1) rfl)
  have k2_ := hts (.fieldLink RX7 19 "DriftGrinders" "text" "LDriftGrinders$Orders;") (List.mem_of_getElem? (i := 2) rfl)
  have n7_ : ∀ w ∈ wsX70, w ∈ wsX7_fault := fun _ h => List.mem_cons_of_mem _ (List.mem_append_left _ (List.mem_append_left _ (List.mem_append_left _ (List.mem_append_left _ (List.mem_append_left _ (List.mem_append_left _ (List.mem_append_right _ h)))))))
  rw [f_X7_fault] at hf
  obtain ⟨H, hH⟩ : ∃ z : Heap, z = s.heap := ⟨_, rfl⟩
  obtain ⟨locs, hL⟩ : ∃ z : List Loc, z = [] := ⟨_, rfl⟩
  replace hP := hH ▸ hP
  replace hS : va_S AA s.heap H locs := by rw [hH, hL]; exact hS
  suffices hgoal : W p l e rmX7_fault s m args below meth c H locs 0 0 Q (F0 m 0 ls []) by rw [hH, hL] at hgoal; exact hgoal
  clear hH hL
  refine lv_iload_n hx hb dX7_fault_0 rfl (lv_at hl 1 rfl) ?_
  refine lv_if_lt (tgt := 9) hx hb dX7_fault_1 (by decide) (fun hc1 => ?_) (fun hc1 => ?_)
  · replace hf := it hc1 hf
    refine lv_ldc hx hb hown k1_ dX7_fault_9 ?_
    obtain rfl := Option.some.inj hf
    exact ret 11 ls _ H locs dX7_fault_11 rfl rfl hP hS
  · replace hf := ie hc1 hf
    refine lv_iload_n hx hb dX7_fault_4 rfl (lv_at hl 1 rfl) ?_
    refine lv_iconst (v := (2 : Int32)) hx hb dX7_fault_5 (by decide) ?_
    refine lv_icmp_le (tgt := 12) hx hb dX7_fault_6 (by decide) (fun hc2 => ?_) (fun hc2 => ?_)
    · replace hf := it hc2 hf
      refine lv_aload_n hx hb dX7_fault_12 rfl (lv_at hl 0 rfl) ?_
      refine va_get hx hb hts n7_ hown hK hP 0 rfl rfl 1 (Nat.le_of_ble_eq_true rfl) k2_ (fun _ h => h) rfl dX7_fault_13 ?_
      refine lv_aload_n hx hb dX7_fault_16 rfl (lv_at hl 0 rfl) ?_
      obtain ⟨q3, hq3, hf⟩ := ob hf
      refine cl_WAV (W1 := ([(t0, .inr (7, [.ref t1, .ref t2, .ref nw, .ref sp])), (t2, .inr (4, [.ref t3, .int oL, .int oA, .int oC, .int oF, .int oS, .int oD, .int oP, .int oR, .int oU])), (t3, .inl (cC, 60, .inl sg))] ++ w_gr cI cC nw a g ++ w_gr cI cC sp o q3)) (As := []) (rest := [.ref t2]) hF hP hD hS (c_X7_spareLikeNow t0 t1 t2 a o nw sp g go q3 hq3) (cwV 0 hts gX7_fault_X7_spareLikeNow rfl rfl rfl (by decide +kernel) ⟨(Nat.le_of_ble_eq_true rfl), (Nat.le_of_ble_eq_true rfl)⟩) [0, 3, 4, 5, 6, 7, 8, 9, 10, 11, 12, 13, 14, 15, 16, 17, 18, 19, 20, 21, 22, 23, 24, 25, 26, 27, 28, 29, 30, 31, 32, 33, 34] rfl (by decide +kernel) (va_recv hK hP (ci := 7) (q0 := 0) rfl rfl) rfl rfl hl.1 (Nat.le_of_ble_eq_true rfl) dX7_fault_17 ⟨Nat.zero_le _, Nat.zero_le _⟩ (hA2 [t0, nw, (a 1), (a 2), (a 3), (a 4), (a 5), (a 6), (a 7), (a 8), (a 9), (a 10), (a 11), (a 12), (a 13), (a 14), (a 15), sp, (o 1), (o 2), (o 3), (o 4), (o 5), (o 6), (o 7), (o 8), (o 9), (o 10), (o 11), (o 12), (o 13), (o 14), (o 15)] rfl rfl) [1, 2] rfl [(t2, .inr (4, [.ref t3, .int oL, .int oA, .int oC, .int oF, .int oS, .int oD, .int oP, .int oR, .int oU])), (t3, .inl (cC, 60, .inl sg))] rfl rfl (nW := 35) rfl (by decide +kernel) (fun H locs hP hD hS => ?_)
      obtain ⟨q4, hq4, hf⟩ := ob hf
      refine cl_VV (W1 := ([(t0, .inr (7, [.ref t1, .ref t2, .ref nw, .ref sp])), (t2, .inr (4, [.ref t3, .int oL, .int q4.1, .int q4.2.1, .int q4.2.2.1, .int q4.2.2.2.1, .int q4.2.2.2.2.1, .int q4.2.2.2.2.2.1, .int q4.2.2.2.2.2.2.1, .int q4.2.2.2.2.2.2.2.1])), (t3, .inl (cC, 60, .inl sg))] ++ w_gr cI cC nw a g ++ w_gr cI cC sp o q4.2.2.2.2.2.2.2.2)) (As := [.ref sp]) (rest := []) hF hP hD hS (c_X4_doAllOn t2 t3 sp o sg oL oA oC oF oS oD oP oR oU q3 q4 hq4) (cwV 1 hts gX7_fault_X4_doAllOn rfl rfl rfl (by decide +kernel) ⟨(Nat.le_of_ble_eq_true rfl), (Nat.le_of_ble_eq_true rfl)⟩) [1, 2, 19, 20, 21, 22, 23, 24, 25, 26, 27, 28, 29, 30, 31, 32, 33, 34] rfl (by decide +kernel) (va_recv hK hP (ci := 4) (q0 := 1) rfl rfl) rfl rfl hl.1 (Nat.le_of_ble_eq_true rfl) dX7_fault_20 ⟨Nat.zero_le _, Nat.zero_le _⟩ (hA2 [t2, t3, sp, (o 1), (o 2), (o 3), (o 4), (o 5), (o 6), (o 7), (o 8), (o 9), (o 10), (o 11), (o 12), (o 13), (o 14), (o 15)] rfl rfl) [0, 3, 4, 5, 6, 7, 8, 9, 10, 11, 12, 13, 14, 15, 16, 17, 18] rfl [(t0, .inr (7, [.ref t1, .ref t2, .ref nw, .ref sp])), (nw, .inr (1, [.ref (a 1), .ref (a 5), .ref (a 6), .ref (a 7), .ref (a 10), .ref (a 13), .ref (a 15), .int g.2.2.2.2.2.2.2.2.2.2.2.2.2.2.2.2.2.2.2.2.2.2.2.2.1, .int g.2.2.2.2.2.2.2.2.2.2.2.2.2.2.2.2.2.2.2.2.2.2.2.2.2.1, .int g.2.2.2.2.2.2.2.2.2.2.2.2.2.2.2.2.2.2.2.2.2.2.2.2.2.2.1, .int g.2.2.2.2.2.2.2.2.2.2.2.2.2.2.2.2.2.2.2.2.2.2.2.2.2.2.2.1, .int g.2.2.2.2.2.2.2.2.2.2.2.2.2.2.2.2.2.2.2.2.2.2.2.2.2.2.2.2.1, .int g.2.2.2.2.2.2.2.2.2.2.2.2.2.2.2.2.2.2.2.2.2.2.2.2.2.2.2.2.2])), ((a 1), .inr (3, [.ref (a 2)])), ((a 2), .inr (5, [.ref (a 3), .ref (a 4), .int g.2.2.1, .int g.2.2.2.1])), ((a 3), .inl (cI, 6, .inl g.1)), ((a 4), .inl (cI, 6, .inl g.2.1)), ((a 5), .inr (0, [.int g.2.2.2.2.1, .int g.2.2.2.2.2.1, .int g.2.2.2.2.2.2.1, .int g.2.2.2.2.2.2.2.1])), ((a 6), .inr (0, [.int g.2.2.2.2.2.2.2.2.1, .int g.2.2.2.2.2.2.2.2.2.1, .int g.2.2.2.2.2.2.2.2.2.2.1, .int g.2.2.2.2.2.2.2.2.2.2.2.1])), ((a 7), .inr (5, [.ref (a 8), .ref (a 9), .int g.2.2.2.2.2.2.2.2.2.2.2.2.2.2.1, .int g.2.2.2.2.2.2.2.2.2.2.2.2.2.2.2.1])), ((a 8), .inl (cI, 106, .inl g.2.2.2.2.2.2.2.2.2.2.2.2.1)), ((a 9), .inl (cI, 106, .inl g.2.2.2.2.2.2.2.2.2.2.2.2.2.1)), ((a 10), .inr (5, [.ref (a 11), .ref (a 12), .int g.2.2.2.2.2.2.2.2.2.2.2.2.2.2.2.2.2.2.1, .int g.2.2.2.2.2.2.2.2.2.2.2.2.2.2.2.2.2.2.2.1])), ((a 11), .inl (cI, 400, .inl g.2.2.2.2.2.2.2.2.2.2.2.2.2.2.2.2.1)), ((a 12), .inl (cI, 400, .inl g.2.2.2.2.2.2.2.2.2.2.2.2.2.2.2.2.2.1)), ((a 13), .inr (6, [.ref (a 14), .int g.2.2.2.2.2.2.2.2.2.2.2.2.2.2.2.2.2.2.2.2.2.1, .int g.2.2.2.2.2.2.2.2.2.2.2.2.2.2.2.2.2.2.2.2.2.2.1])), ((a 14), .inl (cI, 96, .inl g.2.2.2.2.2.2.2.2.2.2.2.2.2.2.2.2.2.2.2.2.1)), ((a 15), .inl (cI, 6, .inl g.2.2.2.2.2.2.2.2.2.2.2.2.2.2.2.2.2.2.2.2.2.2.2.1))] rfl rfl (nW := 35) rfl (by decide +kernel) (fun H locs hP hD hS => ?_)
      refine lv_aload_n hx hb dX7_fault_23 rfl (lv_at hl 0 rfl) ?_
      refine va_get hx hb hts n7_ hown hK hP 0 rfl rfl 1 (Nat.le_of_ble_eq_true rfl) k2_ (fun _ h => h) rfl dX7_fault_24 ?_
      refine lv_iload_n hx hb dX7_fault_27 rfl (lv_at hl 1 rfl) ?_
      obtain ⟨q5, hq5, hf⟩ := ob hf
      refine cl_RV (As := [.int x1]) (rest := []) hF hP hD (c_X4_tellFault t2 t3 x1 sg oL q4.1 q4.2.1 q4.2.2.1 q4.2.2.2.1 q4.2.2.2.2.1 q4.2.2.2.2.2.1 q4.2.2.2.2.2.2.1 q4.2.2.2.2.2.2.2.1 q5 hq5) (cwV 1 hts gX7_fault_X4_tellFault rfl rfl rfl (by decide +kernel) ⟨(Nat.le_of_ble_eq_true rfl), (Nat.le_of_ble_eq_true rfl)⟩) [1, 2] rfl (by decide +kernel) (va_recv hK hP (ci := 4) (q0 := 1) rfl rfl) rfl rfl hl.1 (Nat.le_of_ble_eq_true rfl) dX7_fault_28 ⟨Nat.zero_le _, Nat.zero_le _⟩ ?_
      obtain rfl := Option.some.inj hf
      exact ret 31 ls _ H locs dX7_fault_31 rfl rfl hP hS
    · replace hf := ie hc2 hf
      refine lv_ldc hx hb hown k1_ dX7_fault_9 ?_
      obtain rfl := Option.some.inj hf
      exact ret 11 ls _ H locs dX7_fault_11 rfl rfl hP hS
abbrev rmX7_play : Room := { frames := 7, cells := 0, slots := 0, locals := 200 }
set_option maxHeartbeats 4000000 in
set_option maxRecDepth 100000 in
theorem c_X7_play (t0 : Nat) (t1 : Nat) (t2 : Nat) (t3 : Nat) (a : Nat → Nat) (o : Nat → Nat) (nw : Nat) (sp : Nat) (yl : Nat) (ys : Nat) (yt : Nat) (yo : Nat) (yn : Int32) (sg : Nat → Int32) (oL : Int32) (oA : Int32) (oC : Int32) (oF : Int32) (oS : Int32) (oD : Int32) (oP : Int32) (oR : Int32) (oU : Int32) (g : Gr) (go : Gr) (R : Int32 × Nat × Nat × Nat × Nat × Nat × Nat × Int32 × Int32 × Int32 × Int32 × Int32 × Int32 × Int32 × Int32 × Int32 × Gr) (hf : f_X7_play nw sp yl ys yt yo yn sg oL oA oC oF oS oD oP oR oU g go = some R) : WrI l yX7_play wsX7_play rmX7_play D cI cC ([(t0, .inr (7, [.ref t1, .ref t2, .ref nw, .ref sp])), (t1, .inr (2, [.ref yl, .ref ys, .ref yt, .ref yo, .int yn])), (t2, .inr (4, [.ref t3, .int oL, .int oA, .int oC, .int oF, .int oS, .int oD, .int oP, .int oR, .int oU])), (t3, .inl (cC, 60, .inl sg))] ++ w_gr cI cC nw a g ++ w_gr cI cC sp o go) ([(t0, .inr (7, [.ref t1, .ref t2, .ref R.2.1, .ref R.2.2.1])), (t1, .inr (2, [.ref R.2.2.2.1, .ref R.2.2.2.2.1, .ref R.2.2.2.2.2.1, .ref R.2.2.2.2.2.2.1, .int R.2.2.2.2.2.2.2.1])), (t2, .inr (4, [.ref t3, .int oL, .int R.2.2.2.2.2.2.2.2.1, .int R.2.2.2.2.2.2.2.2.2.1, .int R.2.2.2.2.2.2.2.2.2.2.1, .int R.2.2.2.2.2.2.2.2.2.2.2.1, .int R.2.2.2.2.2.2.2.2.2.2.2.2.1, .int R.2.2.2.2.2.2.2.2.2.2.2.2.2.1, .int R.2.2.2.2.2.2.2.2.2.2.2.2.2.2.1, .int R.2.2.2.2.2.2.2.2.2.2.2.2.2.2.2.1])), (t3, .inl (cC, 60, .inl sg))] ++ w_gr cI cC nw a g ++ w_gr cI cC sp o R.2.2.2.2.2.2.2.2.2.2.2.2.2.2.2.2) [.ref t0] R.1 := by
  refine en_W (cc := cX7_play) (n := 1) (by decide) rfl (Nat.le_of_ble_eq_true rfl) ?_
  intro p e s m args below meth c Q AA ls hx hb hml hown hts hK hN hP hD hS hl ret
  have hown : s.vm.findClass RX7 = some m.cls := hown
  have hF : FX p m c cX7_play 1 s args wsX7_play RX7 D cI cC := ⟨⟨hx, hb, hml, hown, hts⟩, hK, hN⟩
  have hl : lv_has ls 1 [(0, .ref t0)] := hl
  have k1_ := hts (.fieldLink RX7 19 "DriftGrinders" "text" "LDriftGrinders$Orders;") (List.mem_of_getElem? (i := 1) rfl)
  have k2_ := hts (.constant RX7 137 (-1000002)) (List.mem_of_getElem? (i := 2) rfl)
  have n4_ : ∀ w ∈ wsX40, w ∈ wsX7_play := fun _ h => List.mem_cons_of_mem _ (List.mem_append_left _ (List.mem_append_left _ (List.mem_append_left _ (List.mem_append_left _ (List.mem_append_left _ (List.mem_append_left _ (List.mem_append_right _ h)))))))
  have n7_ : ∀ w ∈ wsX70, w ∈ wsX7_play := fun _ h => List.mem_cons_of_mem _ (List.mem_append_left _ (List.mem_append_left _ (List.mem_append_left _ (List.mem_append_left _ (List.mem_append_left _ (List.mem_append_left _ (List.mem_append_left _ (List.mem_append_right _ h))))))))
  have J34 : ∀ (z0_34 : Int32) (nw_34 : Nat) (sp_34 : Nat) (yl_34 : Nat) (ys_34 : Nat) (yt_34 : Nat) (yo_34 : Nat) (yn_34 : Int32) (oA_34 : Int32) (oC_34 : Int32) (oF_34 : Int32) (oS_34 : Int32) (oD_34 : Int32) (oP_34 : Int32) (oR_34 : Int32) (oU_34 : Int32) (go_34 : Gr) (H : Heap) (locs : List Loc), va_P D vwCl ([(t0, .inr (7, [.ref t1, .ref t2, .ref nw_34, .ref sp_34])), (t1, .inr (2, [.ref yl_34, .ref ys_34, .ref yt_34, .ref yo_34, .int yn_34])), (t2, .inr (4, [.ref t3, .int oL, .int oA_34, .int oC_34, .int oF_34, .int oS_34, .int oD_34, .int oP_34, .int oR_34, .int oU_34])), (t3, .inl (cC, 60, .inl sg))] ++ w_gr cI cC nw a g ++ w_gr cI cC sp o go_34) H → va_D AA ([(t0, .inr (7, [.ref t1, .ref t2, .ref nw_34, .ref sp_34])), (t1, .inr (2, [.ref yl_34, .ref ys_34, .ref yt_34, .ref yo_34, .int yn_34])), (t2, .inr (4, [.ref t3, .int oL, .int oA_34, .int oC_34, .int oF_34, .int oS_34, .int oD_34, .int oP_34, .int oR_34, .int oU_34])), (t3, .inl (cC, 60, .inl sg))] ++ w_gr cI cC nw a g ++ w_gr cI cC sp o go_34) → va_S AA s.heap H locs → ∀ ls : Array Slot, lv_has ls 1 [] → f_X7_play_J34 sg oL g z0_34 nw_34 sp_34 yl_34 ys_34 yt_34 yo_34 yn_34 oA_34 oC_34 oF_34 oS_34 oD_34 oP_34 oR_34 oU_34 go_34 = some R → W p l e rmX7_play s m args below meth c H locs 0 0 Q (F0 m 34 ls [.int z0_34, .ref t0]) := by
    intro z0_34 nw_34 sp_34 yl_34 ys_34 yt_34 yo_34 yn_34 oA_34 oC_34 oF_34 oS_34 oD_34 oP_34 oR_34 oU_34 go_34 H locs hP hD hS ls hl hf
    rw [f_X7_play_J34] at hf
    obtain ⟨q5, hq5, hf⟩ := ob hf
    refine cl_WV (W1 := ([(t0, .inr (7, [.ref t1, .ref t2, .ref q5.2.1, .ref q5.2.2.1])), (t1, .inr (2, [.ref q5.2.2.2.1, .ref q5.2.2.2.2.1, .ref q5.2.2.2.2.2.1, .ref q5.2.2.2.2.2.2.1, .int q5.2.2.2.2.2.2.2])), (t2, .inr (4, [.ref t3, .int oL, .int oA_34, .int oC_34, .int oF_34, .int oS_34, .int oD_34, .int oP_34, .int oR_34, .int oU_34])), (t3, .inl (cC, 60, .inl sg))] ++ w_gr cI cC nw a g ++ w_gr cI cC sp o go_34)) (As := [.int z0_34]) (rest := []) hF hP hD hS (c_X7_keepIfDone t0 t1 t2 z0_34 nw_34 sp_34 yl_34 ys_34 yt_34 yo_34 yn_34 q5 hq5) (cwV 1 hts gX7_play_X7_keepIfDone rfl rfl rfl (by decide +kernel) ⟨(Nat.le_of_ble_eq_true rfl), (Nat.le_of_ble_eq_true rfl)⟩) [0, 1] rfl (by decide +kernel) (va_recv hK hP (ci := 7) (q0 := 0) rfl rfl) rfl rfl hl.1 (Nat.le_of_ble_eq_true rfl) dX7_play_34 ⟨Nat.zero_le _, Nat.zero_le _⟩ (hA2 [t0, t1] rfl rfl) [2, 3, 4, 5, 6, 7, 8, 9, 10, 11, 12, 13, 14, 15, 16, 17, 18, 19, 20, 21, 22, 23, 24, 25, 26, 27, 28, 29, 30, 31, 32, 33, 34, 35] rfl [(t2, .inr (4, [.ref t3, .int oL, .int oA_34, .int oC_34, .int oF_34, .int oS_34, .int oD_34, .int oP_34, .int oR_34, .int oU_34])), (t3, .inl (cC, 60, .inl sg)), (nw, .inr (1, [.ref (a 1), .ref (a 5), .ref (a 6), .ref (a 7), .ref (a 10), .ref (a 13), .ref (a 15), .int g.2.2.2.2.2.2.2.2.2.2.2.2.2.2.2.2.2.2.2.2.2.2.2.2.1, .int g.2.2.2.2.2.2.2.2.2.2.2.2.2.2.2.2.2.2.2.2.2.2.2.2.2.1, .int g.2.2.2.2.2.2.2.2.2.2.2.2.2.2.2.2.2.2.2.2.2.2.2.2.2.2.1, .int g.2.2.2.2.2.2.2.2.2.2.2.2.2.2.2.2.2.2.2.2.2.2.2.2.2.2.2.1, .int g.2.2.2.2.2.2.2.2.2.2.2.2.2.2.2.2.2.2.2.2.2.2.2.2.2.2.2.2.1, .int g.2.2.2.2.2.2.2.2.2.2.2.2.2.2.2.2.2.2.2.2.2.2.2.2.2.2.2.2.2])), ((a 1), .inr (3, [.ref (a 2)])), ((a 2), .inr (5, [.ref (a 3), .ref (a 4), .int g.2.2.1, .int g.2.2.2.1])), ((a 3), .inl (cI, 6, .inl g.1)), ((a 4), .inl (cI, 6, .inl g.2.1)), ((a 5), .inr (0, [.int g.2.2.2.2.1, .int g.2.2.2.2.2.1, .int g.2.2.2.2.2.2.1, .int g.2.2.2.2.2.2.2.1])), ((a 6), .inr (0, [.int g.2.2.2.2.2.2.2.2.1, .int g.2.2.2.2.2.2.2.2.2.1, .int g.2.2.2.2.2.2.2.2.2.2.1, .int g.2.2.2.2.2.2.2.2.2.2.2.1])), ((a 7), .inr (5, [.ref (a 8), .ref (a 9), .int g.2.2.2.2.2.2.2.2.2.2.2.2.2.2.1, .int g.2.2.2.2.2.2.2.2.2.2.2.2.2.2.2.1])), ((a 8), .inl (cI, 106, .inl g.2.2.2.2.2.2.2.2.2.2.2.2.1)), ((a 9), .inl (cI, 106, .inl g.2.2.2.2.2.2.2.2.2.2.2.2.2.1)), ((a 10), .inr (5, [.ref (a 11), .ref (a 12), .int g.2.2.2.2.2.2.2.2.2.2.2.2.2.2.2.2.2.2.1, .int g.2.2.2.2.2.2.2.2.2.2.2.2.2.2.2.2.2.2.2.1])), ((a 11), .inl (cI, 400, .inl g.2.2.2.2.2.2.2.2.2.2.2.2.2.2.2.2.1)), ((a 12), .inl (cI, 400, .inl g.2.2.2.2.2.2.2.2.2.2.2.2.2.2.2.2.2.1)), ((a 13), .inr (6, [.ref (a 14), .int g.2.2.2.2.2.2.2.2.2.2.2.2.2.2.2.2.2.2.2.2.2.1, .int g.2.2.2.2.2.2.2.2.2.2.2.2.2.2.2.2.2.2.2.2.2.2.1])), ((a 14), .inl (cI, 96, .inl g.2.2.2.2.2.2.2.2.2.2.2.2.2.2.2.2.2.2.2.2.1)), ((a 15), .inl (cI, 6, .inl g.2.2.2.2.2.2.2.2.2.2.2.2.2.2.2.2.2.2.2.2.2.2.2.1)), (sp, .inr (1, [.ref (o 1), .ref (o 5), .ref (o 6), .ref (o 7), .ref (o 10), .ref (o 13), .ref (o 15), .int go_34.2.2.2.2.2.2.2.2.2.2.2.2.2.2.2.2.2.2.2.2.2.2.2.2.1, .int go_34.2.2.2.2.2.2.2.2.2.2.2.2.2.2.2.2.2.2.2.2.2.2.2.2.2.1, .int go_34.2.2.2.2.2.2.2.2.2.2.2.2.2.2.2.2.2.2.2.2.2.2.2.2.2.2.1, .int go_34.2.2.2.2.2.2.2.2.2.2.2.2.2.2.2.2.2.2.2.2.2.2.2.2.2.2.2.1, .int go_34.2.2.2.2.2.2.2.2.2.2.2.2.2.2.2.2.2.2.2.2.2.2.2.2.2.2.2.2.1, .int go_34.2.2.2.2.2.2.2.2.2.2.2.2.2.2.2.2.2.2.2.2.2.2.2.2.2.2.2.2.2])), ((o 1), .inr (3, [.ref (o 2)])), ((o 2), .inr (5, [.ref (o 3), .ref (o 4), .int go_34.2.2.1, .int go_34.2.2.2.1])), ((o 3), .inl (cI, 6, .inl go_34.1)), ((o 4), .inl (cI, 6, .inl go_34.2.1)), ((o 5), .inr (0, [.int go_34.2.2.2.2.1, .int go_34.2.2.2.2.2.1, .int go_34.2.2.2.2.2.2.1, .int go_34.2.2.2.2.2.2.2.1])), ((o 6), .inr (0, [.int go_34.2.2.2.2.2.2.2.2.1, .int go_34.2.2.2.2.2.2.2.2.2.1, .int go_34.2.2.2.2.2.2.2.2.2.2.1, .int go_34.2.2.2.2.2.2.2.2.2.2.2.1])), ((o 7), .inr (5, [.ref (o 8), .ref (o 9), .int go_34.2.2.2.2.2.2.2.2.2.2.2.2.2.2.1, .int go_34.2.2.2.2.2.2.2.2.2.2.2.2.2.2.2.1])), ((o 8), .inl (cI, 106, .inl go_34.2.2.2.2.2.2.2.2.2.2.2.2.1)), ((o 9), .inl (cI, 106, .inl go_34.2.2.2.2.2.2.2.2.2.2.2.2.2.1)), ((o 10), .inr (5, [.ref (o 11), .ref (o 12), .int go_34.2.2.2.2.2.2.2.2.2.2.2.2.2.2.2.2.2.2.1, .int go_34.2.2.2.2.2.2.2.2.2.2.2.2.2.2.2.2.2.2.2.1])), ((o 11), .inl (cI, 400, .inl go_34.2.2.2.2.2.2.2.2.2.2.2.2.2.2.2.2.1)), ((o 12), .inl (cI, 400, .inl go_34.2.2.2.2.2.2.2.2.2.2.2.2.2.2.2.2.2.1)), ((o 13), .inr (6, [.ref (o 14), .int go_34.2.2.2.2.2.2.2.2.2.2.2.2.2.2.2.2.2.2.2.2.2.1, .int go_34.2.2.2.2.2.2.2.2.2.2.2.2.2.2.2.2.2.2.2.2.2.2.1])), ((o 14), .inl (cI, 96, .inl go_34.2.2.2.2.2.2.2.2.2.2.2.2.2.2.2.2.2.2.2.2.1)), ((o 15), .inl (cI, 6, .inl go_34.2.2.2.2.2.2.2.2.2.2.2.2.2.2.2.2.2.2.2.2.2.2.2.1))] rfl rfl (nW := 36) rfl (by decide +kernel) (fun H locs hP hD hS => ?_)
    obtain rfl := Option.some.inj hf
    exact ret 37 ls _ H locs dX7_play_37 rfl rfl hP hS
  rw [f_X7_play] at hf
  obtain ⟨H, hH⟩ : ∃ z : Heap, z = s.heap := ⟨_, rfl⟩
  obtain ⟨locs, hL⟩ : ∃ z : List Loc, z = [] := ⟨_, rfl⟩
  replace hP := hH ▸ hP
  replace hS : va_S AA s.heap H locs := by rw [hH, hL]; exact hS
  suffices hgoal : W p l e rmX7_play s m args below meth c H locs 0 0 Q (F0 m 0 ls []) by rw [hH, hL] at hgoal; exact hgoal
  clear hH hL
  refine lv_aload_n hx hb dX7_play_0 rfl (lv_at hl 0 rfl) ?_
  refine va_get hx hb hts n7_ hown hK hP 0 rfl rfl 1 (Nat.le_of_ble_eq_true rfl) k1_ (fun _ h => h) rfl dX7_play_1 ?_
  refine lv_aload_n hx hb dX7_play_4 rfl (lv_at hl 0 rfl) ?_
  obtain ⟨q1, hq1, hf⟩ := ob hf
  refine cl_WAV (W1 := ([(t0, .inr (7, [.ref t1, .ref t2, .ref nw, .ref sp])), (t1, .inr (2, [.ref yl, .ref ys, .ref yt, .ref yo, .int yn])), (t2, .inr (4, [.ref t3, .int oL, .int oA, .int oC, .int oF, .int oS, .int oD, .int oP, .int oR, .int oU])), (t3, .inl (cC, 60, .inl sg))] ++ w_gr cI cC nw a g ++ w_gr cI cC sp o q1)) (As := []) (rest := [.ref t2]) hF hP hD hS (c_X7_spareLikeNow t0 t1 t2 a o nw sp g go q1 hq1) (cwV 0 hts gX7_play_X7_spareLikeNow rfl rfl rfl (by decide +kernel) ⟨(Nat.le_of_ble_eq_true rfl), (Nat.le_of_ble_eq_true rfl)⟩) [0, 4, 5, 6, 7, 8, 9, 10, 11, 12, 13, 14, 15, 16, 17, 18, 19, 20, 21, 22, 23, 24, 25, 26, 27, 28, 29, 30, 31, 32, 33, 34, 35] rfl (by decide +kernel) (va_recv hK hP (ci := 7) (q0 := 0) rfl rfl) rfl rfl hl.1 (Nat.le_of_ble_eq_true rfl) dX7_play_5 ⟨Nat.zero_le _, Nat.zero_le _⟩ (hA2 [t0, nw, (a 1), (a 2), (a 3), (a 4), (a 5), (a 6), (a 7), (a 8), (a 9), (a 10), (a 11), (a 12), (a 13), (a 14), (a 15), sp, (o 1), (o 2), (o 3), (o 4), (o 5), (o 6), (o 7), (o 8), (o 9), (o 10), (o 11), (o 12), (o 13), (o 14), (o 15)] rfl rfl) [1, 2, 3] rfl [(t1, .inr (2, [.ref yl, .ref ys, .ref yt, .ref yo, .int yn])), (t2, .inr (4, [.ref t3, .int oL, .int oA, .int oC, .int oF, .int oS, .int oD, .int oP, .int oR, .int oU])), (t3, .inl (cC, 60, .inl sg))] rfl rfl (nW := 36) rfl (by decide +kernel) (fun H locs hP hD hS => ?_)
  obtain ⟨q2, hq2, hf⟩ := ob hf
  refine cl_VV (W1 := ([(t0, .inr (7, [.ref t1, .ref t2, .ref nw, .ref sp])), (t1, .inr (2, [.ref yl, .ref ys, .ref yt, .ref yo, .int yn])), (t2, .inr (4, [.ref t3, .int oL, .int q2.1, .int q2.2.1, .int q2.2.2.1, .int q2.2.2.2.1, .int q2.2.2.2.2.1, .int q2.2.2.2.2.2.1, .int q2.2.2.2.2.2.2.1, .int q2.2.2.2.2.2.2.2.1])), (t3, .inl (cC, 60, .inl sg))] ++ w_gr cI cC nw a g ++ w_gr cI cC sp o q2.2.2.2.2.2.2.2.2)) (As := [.ref sp]) (rest := []) hF hP hD hS (c_X4_doAllOn t2 t3 sp o sg oL oA oC oF oS oD oP oR oU q1 q2 hq2) (cwV 1 hts gX7_play_X4_doAllOn rfl rfl rfl (by decide +kernel) ⟨(Nat.le_of_ble_eq_true rfl), (Nat.le_of_ble_eq_true rfl)⟩) [2, 3, 20, 21, 22, 23, 24, 25, 26, 27, 28, 29, 30, 31, 32, 33, 34, 35] rfl (by decide +kernel) (va_recv hK hP (ci := 4) (q0 := 2) rfl rfl) rfl rfl hl.1 (Nat.le_of_ble_eq_true rfl) dX7_play_8 ⟨Nat.zero_le _, Nat.zero_le _⟩ (hA2 [t2, t3, sp, (o 1), (o 2), (o 3), (o 4), (o 5), (o 6), (o 7), (o 8), (o 9), (o 10), (o 11), (o 12), (o 13), (o 14), (o 15)] rfl rfl) [0, 1, 4, 5, 6, 7, 8, 9, 10, 11, 12, 13, 14, 15, 16, 17, 18, 19] rfl [(t0, .inr (7, [.ref t1, .ref t2, .ref nw, .ref sp])), (t1, .inr (2, [.ref yl, .ref ys, .ref yt, .ref yo, .int yn])), (nw, .inr (1, [.ref (a 1), .ref (a 5), .ref (a 6), .ref (a 7), .ref (a 10), .ref (a 13), .ref (a 15), .int g.2.2.2.2.2.2.2.2.2.2.2.2.2.2.2.2.2.2.2.2.2.2.2.2.1, .int g.2.2.2.2.2.2.2.2.2.2.2.2.2.2.2.2.2.2.2.2.2.2.2.2.2.1, .int g.2.2.2.2.2.2.2.2.2.2.2.2.2.2.2.2.2.2.2.2.2.2.2.2.2.2.1, .int g.2.2.2.2.2.2.2.2.2.2.2.2.2.2.2.2.2.2.2.2.2.2.2.2.2.2.2.1, .int g.2.2.2.2.2.2.2.2.2.2.2.2.2.2.2.2.2.2.2.2.2.2.2.2.2.2.2.2.1, .int g.2.2.2.2.2.2.2.2.2.2.2.2.2.2.2.2.2.2.2.2.2.2.2.2.2.2.2.2.2])), ((a 1), .inr (3, [.ref (a 2)])), ((a 2), .inr (5, [.ref (a 3), .ref (a 4), .int g.2.2.1, .int g.2.2.2.1])), ((a 3), .inl (cI, 6, .inl g.1)), ((a 4), .inl (cI, 6, .inl g.2.1)), ((a 5), .inr (0, [.int g.2.2.2.2.1, .int g.2.2.2.2.2.1, .int g.2.2.2.2.2.2.1, .int g.2.2.2.2.2.2.2.1])), ((a 6), .inr (0, [.int g.2.2.2.2.2.2.2.2.1, .int g.2.2.2.2.2.2.2.2.2.1, .int g.2.2.2.2.2.2.2.2.2.2.1, .int g.2.2.2.2.2.2.2.2.2.2.2.1])), ((a 7), .inr (5, [.ref (a 8), .ref (a 9), .int g.2.2.2.2.2.2.2.2.2.2.2.2.2.2.1, .int g.2.2.2.2.2.2.2.2.2.2.2.2.2.2.2.1])), ((a 8), .inl (cI, 106, .inl g.2.2.2.2.2.2.2.2.2.2.2.2.1)), ((a 9), .inl (cI, 106, .inl g.2.2.2.2.2.2.2.2.2.2.2.2.2.1)), ((a 10), .inr (5, [.ref (a 11), .ref (a 12), .int g.2.2.2.2.2.2.2.2.2.2.2.2.2.2.2.2.2.2.1, .int g.2.2.2.2.2.2.2.2.2.2.2.2.2.2.2.2.2.2.2.1])), ((a 11), .inl (cI, 400, .inl g.2.2.2.2.2.2.2.2.2.2.2.2.2.2.2.2.1)), ((a 12), .inl (cI, 400, .inl g.2.2.2.2.2.2.2.2.2.2.2.2.2.2.2.2.2.1)), ((a 13), .inr (6, [.ref (a 14), .int g.2.2.2.2.2.2.2.2.2.2.2.2.2.2.2.2.2.2.2.2.2.1, .int g.2.2.2.2.2.2.2.2.2.2.2.2.2.2.2.2.2.2.2.2.2.2.1])), ((a 14), .inl (cI, 96, .inl g.2.2.2.2.2.2.2.2.2.2.2.2.2.2.2.2.2.2.2.2.1)), ((a 15), .inl (cI, 6, .inl g.2.2.2.2.2.2.2.2.2.2.2.2.2.2.2.2.2.2.2.2.2.2.2.1))] rfl rfl (nW := 36) rfl (by decide +kernel) (fun H locs hP hD hS => ?_)
  refine lv_aload_n hx hb dX7_play_11 rfl (lv_at hl 0 rfl) ?_
  refine lv_aload_n hx hb dX7_play_12 rfl (lv_at hl 0 rfl) ?_
  refine va_get hx hb hts n7_ hown hK hP 0 rfl rfl 1 (Nat.le_of_ble_eq_true rfl) k1_ (fun _ h => h) rfl dX7_play_13 ?_
  obtain ⟨q3, hq3, hf⟩ := ob hf
  refine cl_RV (As := []) (rest := [.ref t0]) hF hP hD (c_X4_hasFault t2 t3 sg oL q2.1 q2.2.1 q2.2.2.1 q2.2.2.2.1 q2.2.2.2.2.1 q2.2.2.2.2.2.1 q2.2.2.2.2.2.2.1 q2.2.2.2.2.2.2.2.1 q3 hq3) (cwV 0 hts gX7_play_X4_hasFault rfl rfl rfl (by decide +kernel) ⟨(Nat.le_of_ble_eq_true rfl), (Nat.le_of_ble_eq_true rfl)⟩) [2, 3] rfl (by decide +kernel) (va_recv hK hP (ci := 4) (q0 := 2) rfl rfl) rfl rfl hl.1 (Nat.le_of_ble_eq_true rfl) dX7_play_16 ⟨Nat.zero_le _, Nat.zero_le _⟩ ?_
  refine lv_if_eq (tgt := 27) hx hb dX7_play_19 (by decide) (fun hc4 => ?_) (fun hc4 => ?_)
  · replace hf := it hc4 hf
    refine lv_aload_n hx hb dX7_play_27 rfl (lv_at hl 0 rfl) ?_
    refine va_get hx hb hts n7_ hown hK hP 0 rfl rfl 1 (Nat.le_of_ble_eq_true rfl) k1_ (fun _ h => h) rfl dX7_play_28 ?_
    refine va_getN hx hb hts n4_ hown hK hP 2 rfl rfl 6 (Nat.le_of_ble_eq_true rfl) (hN.get 15 rfl) (fun _ h => h) rfl dX7_play_31 ?_
    exact J34 q2.2.2.2.2.1 nw sp yl ys yt yo yn q2.1 q2.2.1 q2.2.2.1 q2.2.2.2.1 q2.2.2.2.2.1 q2.2.2.2.2.2.1 q2.2.2.2.2.2.2.1 q2.2.2.2.2.2.2.2.1 q2.2.2.2.2.2.2.2.2 H locs hP hD hS ls (lv_sub hl [] rfl) hf
  · replace hf := ie hc4 hf
    refine lv_ldc hx hb hown k2_ dX7_play_22 ?_
    refine lv_goto (tgt := 34) hx hb dX7_play_24 (by decide) ?_
    exact J34 (-1000002 : Int32) nw sp yl ys yt yo yn q2.1 q2.2.1 q2.2.2.1 q2.2.2.2.1 q2.2.2.2.2.1 q2.2.2.2.2.2.1 q2.2.2.2.2.2.2.1 q2.2.2.2.2.2.2.2.1 q2.2.2.2.2.2.2.2.2 H locs hP hD hS ls (lv_sub hl [] rfl) hf
end
