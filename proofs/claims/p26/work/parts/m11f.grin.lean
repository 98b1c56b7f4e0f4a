section
variable {l : Launch} {D : va_G} {cI cC : ClassId}

abbrev rmX1_correctByLatest : Room := { frames := 2, cells := 0, slots := 0, locals := 44 }
set_option maxHeartbeats 4000000 in
set_option maxRecDepth 100000 in
theorem c_X1_correctByLatest (gh : Nat) (a : Nat → Nat) (x1 : Int32) (pA : Nat → Int32) (pM : Nat → Int32) (pn : Int32) (pt : Int32) (d0 : Int32) (w0 : Int32) (g0 : Int32) (k0 : Int32) (d1 : Int32) (w1 : Int32) (g1 : Int32) (k1 : Int32) (qA : Nat → Int32) (qM : Nat → Int32) (qn : Int32) (qt : Int32) (uA : Nat → Int32) (uM : Nat → Int32) (un : Int32) (ut : Int32) (sF : Nat → Int32) (sk : Int32) (sm : Int32) (st : Nat → Int32) (se : Int32) (fi : Int32) (gr : Int32) (br : Int32) (pu : Int32) (nr : Int32) (R : Int32 × Int32 × Int32 × Int32 × Int32) (hf : f_X1_correctByLatest x1 d0 k0 d1 k1 sF sk st = some R) : WrI l yX1_correctByLatest wsX1_correctByLatest rmX1_correctByLatest D cI cC (w_grinder cI cC gh a pA pM pn pt d0 w0 g0 k0 d1 w1 g1 k1 qA qM qn qt uA uM un ut sF sk sm st se fi gr br pu nr) (w_grinder cI cC gh a pA pM pn pt R.2.1 w0 g0 R.2.2.1 R.2.2.2.1 w1 g1 R.2.2.2.2 qA qM qn qt uA uM un ut sF sk sm st se fi gr br pu nr) [.ref gh, .int x1] R.1 := by
  refine en_W (cc := cX1_correctByLatest) (n := 3) (by decide) rfl (Nat.le_of_ble_eq_true rfl) ?_
  intro p e s m args below meth c Q AA ls hx hb hml hown hts hK hN hP hD hS hl ret
  have hown : s.vm.findClass RX1 = some m.cls := hown
  have hF : FX p m c cX1_correctByLatest 3 s args wsX1_correctByLatest RX1 D cI cC := ⟨⟨hx, hb, hml, hown, hts⟩, hK, hN⟩
  have hl : lv_has ls 3 [(0, .ref gh), (1, .int x1)] := hl
  have k1_ := hts (.constant RX1 93 (-1000001)) (List.mem_of_getElem? (i := 1) rfl)
  have k2_ := hts (.fieldLink RX1 43 "DriftGrinders$Grinder" "shots" "LDriftGrinders$Shots;") (List.mem_of_getElem? (i := 2) rfl)
  have k3_ := hts (.constant RX1 107 (-1000002)) (List.mem_of_getElem? (i := 3) rfl)
  have k4_ := hts (.fieldLink RX1 47 "DriftGrinders$Grinder" "settings" "[I") (List.mem_of_getElem? (i := 4) rfl)
  have k5_ := hts (.static yX7_isZeroOrOne) (List.mem_of_getElem? (i := 5) rfl)
  have k6_ := hts (.initialized RX7) (List.mem_of_getElem? (i := 6) rfl)
  have n0_ : ∀ w ∈ wsX00, w ∈ wsX1_correctByLatest := fun _ h => List.mem_cons_of_mem _ (List.mem_append_right _ h)
  have n1_ : ∀ w ∈ wsX10, w ∈ wsX1_correctByLatest := fun _ h => List.mem_cons_of_mem _ (List.mem_append_left _ (List.mem_append_left _ (List.mem_append_right _ h)))
  have n6_ : ∀ w ∈ wsX60, w ∈ wsX1_correctByLatest := fun _ h => List.mem_cons_of_mem _ (List.mem_append_left _ (List.mem_append_right _ h))
  rw [f_X1_correctByLatest] at hf
  obtain ⟨H, hH⟩ : ∃ z : Heap, z = s.heap := ⟨_, rfl⟩
  obtain ⟨locs, hL⟩ : ∃ z : List Loc, z = [] := ⟨_, rfl⟩
  replace hP := hH ▸ hP
  replace hS : va_S AA s.heap H locs := by rw [hH, hL]; exact hS
  suffices hgoal : W p l e rmX1_correctByLatest s m args below meth c H locs 0 0 Q (F0 m 0 ls []) by rw [hH, hL] at hgoal; exact hgoal
  clear hH hL
  refine lv_iload_n hx hb dX1_correctByLatest_0 rfl (lv_at hl 1 rfl) ?_
  obtain ⟨q1, hq1, hf⟩ := ob hf
  refine cl_RN (As := [.int x1]) (rest := []) hF hP hD (c_X7_isZeroOrOne x1 q1 hq1) ⟨va_cnB 1 hts gX1_correctByLatest_X7_isZeroOrOne_n89 rfl rfl rfl (hN.nw 29 rfl) k6_ (by decide +kernel) ⟨(Nat.le_of_ble_eq_true rfl), (Nat.le_of_ble_eq_true rfl)⟩, k5_, trivial⟩ [] rfl (by decide +kernel) rfl rfl hl.1 (Nat.le_of_ble_eq_true rfl) dX1_correctByLatest_1 ⟨Nat.zero_le _, Nat.zero_le _⟩ ?_
  refine lv_if_ne (tgt := 10) hx hb dX1_correctByLatest_4 (by decide) (fun hc2 => ?_) (fun hc2 => ?_)
  · replace hf := ie hc2 hf
    refine lv_aload_n hx hb dX1_correctByLatest_10 rfl (lv_at hl 0 rfl) ?_
    refine va_get hx hb hts n1_ hown hK hP 0 rfl rfl 5 (Nat.le_of_ble_eq_true rfl) k2_ (fun _ h => h) rfl dX1_correctByLatest_11 ?_
    refine va_getN hx hb hts n6_ hown hK hP 13 rfl rfl 1 (Nat.le_of_ble_eq_true rfl) (hN.get 6 rfl) (fun _ h => h) rfl dX1_correctByLatest_14 ?_
    refine lv_iconst (v := (1 : Int32)) hx hb dX1_correctByLatest_17 (by decide) ?_
    refine lv_icmp_ge (tgt := 24) hx hb dX1_correctByLatest_18 (by decide) (fun hc3 => ?_) (fun hc3 => ?_)
    · replace hf := it hc3 hf
      refine lv_aload_n hx hb dX1_correctByLatest_24 rfl (lv_at hl 0 rfl) ?_
      refine lv_iload_n hx hb dX1_correctByLatest_25 rfl (lv_at hl 1 rfl) ?_
      by_cases hc4 : x1 = 0
      · replace hf := it hc4 hf
        refine cl_AV (As := [.int x1]) (rest := []) hF hP hD (c_X1_burrNumbered_0 gh a x1 pA pM pn pt d0 w0 g0 k0 d1 w1 g1 k1 qA qM qn qt uA uM un ut sF sk sm st se fi gr br pu nr hc4) (cwV 1 hts gX1_correctByLatest_X1_burrNumbered rfl rfl rfl (by decide +kernel) ⟨(Nat.le_of_ble_eq_true rfl), (Nat.le_of_ble_eq_true rfl)⟩) [0, 1, 2, 3, 4, 5, 6, 7, 8, 9, 10, 11, 12, 13, 14, 15] rfl (by decide +kernel) (va_recv hK hP (ci := 1) (q0 := 0) rfl rfl) rfl rfl hl.1 (Nat.le_of_ble_eq_true rfl) dX1_correctByLatest_26 ⟨Nat.zero_le _, Nat.zero_le _⟩ ?_
        refine lv_astore_n (lv' := [(2, .ref (a 5)), (0, .ref gh), (1, .int x1)]) hx hb dX1_correctByLatest_29 rfl hl (by decide) rfl (fun ls hl => ?_)
        refine lv_aload_n hx hb dX1_correctByLatest_30 rfl (lv_at hl 0 rfl) ?_
        refine lv_aload_n hx hb dX1_correctByLatest_31 rfl (lv_at hl 1 rfl) ?_
        refine va_get hx hb hts n1_ hown hK hP 0 rfl rfl 5 (Nat.le_of_ble_eq_true rfl) k2_ (fun _ h => h) rfl dX1_correctByLatest_32 ?_
        obtain ⟨q5, hq5, hf⟩ := ob hf
        refine cl_RV (As := []) (rest := [.ref (a 5)]) hF hP hD (c_X6_latestTime (a 13) (a 14) sF sk sm q5 hq5) (cwV 0 hts gX1_correctByLatest_X6_latestTime rfl rfl rfl (by decide +kernel) ⟨(Nat.le_of_ble_eq_true rfl), (Nat.le_of_ble_eq_true rfl)⟩) [13, 14] rfl (by decide +kernel) (va_recv hK hP (ci := 6) (q0 := 13) rfl rfl) rfl rfl hl.1 (Nat.le_of_ble_eq_true rfl) dX1_correctByLatest_35 ⟨Nat.zero_le _, Nat.zero_le _⟩ ?_
        refine lv_aload_n hx hb dX1_correctByLatest_38 rfl (lv_at hl 1 rfl) ?_
        refine va_get hx hb hts n1_ hown hK hP 0 rfl rfl 6 (Nat.le_of_ble_eq_true rfl) k4_ (fun _ h => h) rfl dX1_correctByLatest_39 ?_
        refine lv_iconst (v := (0 : Int32)) hx hb dX1_correctByLatest_42 (by decide) ?_
        refine va_iald hx hb hK hP 15 0 rfl rfl (show ¬ ((0 : Int32) < 0 ∨ 6 ≤ (0 : Int32).toNatClampNeg) by decide) dX1_correctByLatest_43 ?_
        obtain ⟨q6, hq6, hf⟩ := ob hf
        refine cl_VV (W1 := (w_grinder cI cC gh a pA pM pn pt q6.1 w0 g0 q6.2 d1 w1 g1 k1 qA qM qn qt uA uM un ut sF sk sm st se fi gr br pu nr)) (As := [.int q5, .int (st (0 : Int32).toNatClampNeg)]) (rest := []) hF hP hD hS (c_X0_correctBy (a 5) q5 (st (0 : Int32).toNatClampNeg) d0 w0 g0 k0 q6 hq6) (cwV 2 hts gX1_correctByLatest_X0_correctBy rfl rfl rfl (by decide +kernel) ⟨(Nat.le_of_ble_eq_true rfl), (Nat.le_of_ble_eq_true rfl)⟩) [5] rfl (by decide +kernel) (va_recv hK hP (ci := 0) (q0 := 5) rfl rfl) rfl rfl hl.1 (Nat.le_of_ble_eq_true rfl) dX1_correctByLatest_44 ⟨Nat.zero_le _, Nat.zero_le _⟩ (hA2 [(a 5)] rfl rfl) [0, 1, 2, 3, 4, 6, 7, 8, 9, 10, 11, 12, 13, 14, 15] rfl [(gh, .inr (1, [.ref (a 1), .ref (a 5), .ref (a 6), .ref (a 7), .ref (a 10), .ref (a 13), .ref (a 15), .int se, .int fi, .int gr, .int br, .int pu, .int nr])), ((a 1), .inr (3, [.ref (a 2)])), ((a 2), .inr (5, [.ref (a 3), .ref (a 4), .int pn, .int pt])), ((a 3), .inl (cI, 6, .inl pA)), ((a 4), .inl (cI, 6, .inl pM)), ((a 6), .inr (0, [.int d1, .int w1, .int g1, .int k1])), ((a 7), .inr (5, [.ref (a 8), .ref (a 9), .int qn, .int qt])), ((a 8), .inl (cI, 106, .inl qA)), ((a 9), .inl (cI, 106, .inl qM)), ((a 10), .inr (5, [.ref (a 11), .ref (a 12), .int un, .int ut])), ((a 11), .inl (cI, 400, .inl uA)), ((a 12), .inl (cI, 400, .inl uM)), ((a 13), .inr (6, [.ref (a 14), .int sk, .int sm])), ((a 14), .inl (cI, 96, .inl sF)), ((a 15), .inl (cI, 6, .inl st))] rfl rfl (nW := 16) rfl (by decide +kernel) (fun H locs hP hD hS => ?_)
        refine lv_aload_n hx hb dX1_correctByLatest_47 rfl (lv_at hl 0 rfl) ?_
        refine va_getN hx hb hts n0_ hown hK hP 5 rfl rfl 0 (Nat.le_of_ble_eq_true rfl) (hN.get 4 rfl) (fun _ h => h) rfl dX1_correctByLatest_48 ?_
        obtain rfl := Option.some.inj hf
        exact ret 51 ls _ H locs dX1_correctByLatest_51 rfl rfl hP hS
      · replace hf := ie hc4 hf
        refine cl_AV (As := [.int x1]) (rest := []) hF hP hD (c_X1_burrNumbered_1 gh a x1 pA pM pn pt d0 w0 g0 k0 d1 w1 g1 k1 qA qM qn qt uA uM un ut sF sk sm st se fi gr br pu nr hc4) (cwV 1 hts gX1_correctByLatest_X1_burrNumbered rfl rfl rfl (by decide +kernel) ⟨(Nat.le_of_ble_eq_true rfl), (Nat.le_of_ble_eq_true rfl)⟩) [0, 1, 2, 3, 4, 5, 6, 7, 8, 9, 10, 11, 12, 13, 14, 15] rfl (by decide +kernel) (va_recv hK hP (ci := 1) (q0 := 0) rfl rfl) rfl rfl hl.1 (Nat.le_of_ble_eq_true rfl) dX1_correctByLatest_26 ⟨Nat.zero_le _, Nat.zero_le _⟩ ?_
        refine lv_astore_n (lv' := [(2, .ref (a 6)), (0, .ref gh), (1, .int x1)]) hx hb dX1_correctByLatest_29 rfl hl (by decide) rfl (fun ls hl => ?_)
        refine lv_aload_n hx hb dX1_correctByLatest_30 rfl (lv_at hl 0 rfl) ?_
        refine lv_aload_n hx hb dX1_correctByLatest_31 rfl (lv_at hl 1 rfl) ?_
        refine va_get hx hb hts n1_ hown hK hP 0 rfl rfl 5 (Nat.le_of_ble_eq_true rfl) k2_ (fun _ h => h) rfl dX1_correctByLatest_32 ?_
        obtain ⟨q7, hq7, hf⟩ := ob hf
        refine cl_RV (As := []) (rest := [.ref (a 6)]) hF hP hD (c_X6_latestTime (a 13) (a 14) sF sk sm q7 hq7) (cwV 0 hts gX1_correctByLatest_X6_latestTime rfl rfl rfl (by decide +kernel) ⟨(Nat.le_of_ble_eq_true rfl), (Nat.le_of_ble_eq_true rfl)⟩) [13, 14] rfl (by decide +kernel) (va_recv hK hP (ci := 6) (q0 := 13) rfl rfl) rfl rfl hl.1 (Nat.le_of_ble_eq_true rfl) dX1_correctByLatest_35 ⟨Nat.zero_le _, Nat.zero_le _⟩ ?_
        refine lv_aload_n hx hb dX1_correctByLatest_38 rfl (lv_at hl 1 rfl) ?_
        refine va_get hx hb hts n1_ hown hK hP 0 rfl rfl 6 (Nat.le_of_ble_eq_true rfl) k4_ (fun _ h => h) rfl dX1_correctByLatest_39 ?_
        refine lv_iconst (v := (0 : Int32)) hx hb dX1_correctByLatest_42 (by decide) ?_
        refine va_iald hx hb hK hP 15 0 rfl rfl (show ¬ ((0 : Int32) < 0 ∨ 6 ≤ (0 : Int32).toNatClampNeg) by decide) dX1_correctByLatest_43 ?_
        obtain ⟨q8, hq8, hf⟩ := ob hf
        refine cl_VV (W1 := (w_grinder cI cC gh a pA pM pn pt d0 w0 g0 k0 q8.1 w1 g1 q8.2 qA qM qn qt uA uM un ut sF sk sm st se fi gr br pu nr)) (As := [.int q7, .int (st (0 : Int32).toNatClampNeg)]) (rest := []) hF hP hD hS (c_X0_correctBy (a 6) q7 (st (0 : Int32).toNatClampNeg) d1 w1 g1 k1 q8 hq8) (cwV 2 hts gX1_correctByLatest_X0_correctBy rfl rfl rfl (by decide +kernel) ⟨(Nat.le_of_ble_eq_true rfl), (Nat.le_of_ble_eq_true rfl)⟩) [6] rfl (by decide +kernel) (va_recv hK hP (ci := 0) (q0 := 6) rfl rfl) rfl rfl hl.1 (Nat.le_of_ble_eq_true rfl) dX1_correctByLatest_44 ⟨Nat.zero_le _, Nat.zero_le _⟩ (hA2 [(a 6)] rfl rfl) [0, 1, 2, 3, 4, 5, 7, 8, 9, 10, 11, 12, 13, 14, 15] rfl [(gh, .inr (1, [.ref (a 1), .ref (a 5), .ref (a 6), .ref (a 7), .ref (a 10), .ref (a 13), .ref (a 15), .int se, .int fi, .int gr, .int br, .int pu, .int nr])), ((a 1), .inr (3, [.ref (a 2)])), ((a 2), .inr (5, [.ref (a 3), .ref (a 4), .int pn, .int pt])), ((a 3), .inl (cI, 6, .inl pA)), ((a 4), .inl (cI, 6, .inl pM)), ((a 5), .inr (0, [.int d0, .int w0, .int g0, .int k0])), ((a 7), .inr (5, [.ref (a 8), .ref (a 9), .int qn, .int qt])), ((a 8), .inl (cI, 106, .inl qA)), ((a 9), .inl (cI, 106, .inl qM)), ((a 10), .inr (5, [.ref (a 11), .ref (a 12), .int un, .int ut])), ((a 11), .inl (cI, 400, .inl uA)), ((a 12), .inl (cI, 400, .inl uM)), ((a 13), .inr (6, [.ref (a 14), .int sk, .int sm])), ((a 14), .inl (cI, 96, .inl sF)), ((a 15), .inl (cI, 6, .inl st))] rfl rfl (nW := 16) rfl (by decide +kernel) (fun H locs hP hD hS => ?_)
        refine lv_aload_n hx hb dX1_correctByLatest_47 rfl (lv_at hl 0 rfl) ?_
        refine va_getN hx hb hts n0_ hown hK hP 6 rfl rfl 0 (Nat.le_of_ble_eq_true rfl) (hN.get 4 rfl) (fun _ h => h) rfl dX1_correctByLatest_48 ?_
        obtain rfl := Option.some.inj hf
        exact ret 51 ls _ H locs dX1_correctByLatest_51 rfl rfl hP hS
    · replace hf := ie hc3 hf
      refine lv_ldc hx hb hown k3_ dX1_correctByLatest_21 ?_
      obtain rfl := Option.some.inj hf
      exact ret 23 ls _ H locs dX1_correctByLatest_23 rfl rfl hP hS
  · replace hf := it hc2 hf
    refine lv_ldc hx hb hown k1_ dX1_correctByLatest_7 ?_
    obtain rfl := Option.some.inj hf
    exact ret 9 ls _ H locs dX1_correctByLatest_9 rfl rfl hP hS
abbrev rmX1_changeSetting : Room := { frames := 1, cells := 0, slots := 0, locals := 0 }
set_option maxHeartbeats 4000000 in
set_option maxRecDepth 100000 in
theorem c_X1_changeSetting (gh : Nat) (a : Nat → Nat) (x1 : Int32) (x2 : Int32) (pA : Nat → Int32) (pM : Nat → Int32) (pn : Int32) (pt : Int32) (d0 : Int32) (w0 : Int32) (g0 : Int32) (k0 : Int32) (d1 : Int32) (w1 : Int32) (g1 : Int32) (k1 : Int32) (qA : Nat → Int32) (qM : Nat → Int32) (qn : Int32) (qt : Int32) (uA : Nat → Int32) (uM : Nat → Int32) (un : Int32) (ut : Int32) (sF : Nat → Int32) (sk : Int32) (sm : Int32) (st : Nat → Int32) (se : Int32) (fi : Int32) (gr : Int32) (br : Int32) (pu : Int32) (nr : Int32) (R : Int32 × (Nat → Int32)) (hf : f_X1_changeSetting x1 x2 st = some R) : WrIS l yX1_changeSetting wsX1_changeSetting rmX1_changeSetting D cI cC (w_grinder cI cC gh a pA pM pn pt d0 w0 g0 k0 d1 w1 g1 k1 qA qM qn qt uA uM un ut sF sk sm st se fi gr br pu nr) (w_grinder cI cC gh a pA pM pn pt d0 w0 g0 k0 d1 w1 g1 k1 qA qM qn qt uA uM un ut sF sk sm R.2 se fi gr br pu nr) [.ref gh, .int x1, .int x2] R.1 := by
  refine en_WS (cc := cX1_changeSetting) (n := 4) (by decide) rfl (Nat.le_of_ble_eq_true rfl) ?_
  intro p e s m args below meth c Q AA ls hx hb hml hown hts hK hN hP hD hS hST hl ret
  obtain ⟨tl, tm, hZl, hTl, hZm, hTm⟩ := hST
  have hown : s.vm.findClass RX1 = some m.cls := hown
  have hF : FX p m c cX1_changeSetting 4 s args wsX1_changeSetting RX1 D cI cC := ⟨⟨hx, hb, hml, hown, hts⟩, hK, hN⟩
  have hl : lv_has ls 4 [(0, .ref gh), (1, .int x1), (2, .int x2)] := hl
  have k1_ := hts (.fieldLink RX1 47 "DriftGrinders$Grinder" "settings" "[I") (List.mem_of_getElem? (i := 1) rfl)
  have k2_ := hts (.constant RX1 93 (-1000001)) (List.mem_of_getElem? (i := 2) rfl)
  have n1_ : ∀ w ∈ wsX10, w ∈ wsX1_changeSetting := fun _ h => List.mem_cons_of_mem _ (List.mem_append_right _ h)
  rw [f_X1_changeSetting] at hf
  obtain ⟨H, hH⟩ : ∃ z : Heap, z = s.heap := ⟨_, rfl⟩
  obtain ⟨locs, hL⟩ : ∃ z : List Loc, z = [] := ⟨_, rfl⟩
  replace hP := hH ▸ hP
  replace hS : va_S AA s.heap H locs := by rw [hH, hL]; exact hS
  suffices hgoal : W p l e rmX1_changeSetting s m args below meth c H locs 0 0 Q (F0 m 0 ls []) by rw [hH, hL] at hgoal; exact hgoal
  clear hH hL
  refine lv_iload_n hx hb dX1_changeSetting_0 rfl (lv_at hl 1 rfl) ?_
  refine lv_if_lt (tgt := 31) hx hb dX1_changeSetting_1 (by decide) (fun hc1 => ?_) (fun hc1 => ?_)
  · replace hf := it hc1 hf
    refine lv_ldc hx hb hown k2_ dX1_changeSetting_31 ?_
    obtain rfl := Option.some.inj hf
    exact ret 33 ls _ H locs dX1_changeSetting_33 rfl rfl hP hS
  · replace hf := ie hc1 hf
    refine lv_iload_n hx hb dX1_changeSetting_4 rfl (lv_at hl 1 rfl) ?_
    refine lv_aload_n hx hb dX1_changeSetting_5 rfl (lv_at hl 0 rfl) ?_
    refine va_get hx hb hts n1_ hown hK hP 0 rfl rfl 6 (Nat.le_of_ble_eq_true rfl) k1_ (fun _ h => h) rfl dX1_changeSetting_6 ?_
    refine va_alen hx hb hK hP 15 0 rfl rfl (v := (6 : Int32)) rfl dX1_changeSetting_9 ?_
    refine lv_icmp_ge (tgt := 31) hx hb dX1_changeSetting_10 (by decide) (fun hc2 => ?_) (fun hc2 => ?_)
    · replace hf := it hc2 hf
      refine lv_ldc hx hb hown k2_ dX1_changeSetting_31 ?_
      obtain rfl := Option.some.inj hf
      exact ret 33 ls _ H locs dX1_changeSetting_33 rfl rfl hP hS
    · replace hf := ie hc2 hf
      refine lv_iload_n hx hb dX1_changeSetting_13 rfl (lv_at hl 2 rfl) ?_
      refine va_getsN hx hb hZl hS hown (hN.get 15 rfl) (fun _ h => h) dX1_changeSetting_14 ?_
      refine lv_iload_n hx hb dX1_changeSetting_17 rfl (lv_at hl 1 rfl) ?_
      obtain ⟨hg3, hf⟩ := gd_s hf
      refine va_ti hx hb hTl hS hg3 (v := .int (tbL x1.toNatClampNeg)) rfl dX1_changeSetting_18 ?_
      refine lv_icmp_lt (tgt := 31) hx hb dX1_changeSetting_19 (by decide) (fun hc4 => ?_) (fun hc4 => ?_)
      · replace hf := it hc4 hf
        refine lv_ldc hx hb hown k2_ dX1_changeSetting_31 ?_
        obtain rfl := Option.some.inj hf
        exact ret 33 ls _ H locs dX1_changeSetting_33 rfl rfl hP hS
      · replace hf := ie hc4 hf
        refine lv_iload_n hx hb dX1_changeSetting_22 rfl (lv_at hl 2 rfl) ?_
        refine va_getsN hx hb hZm hS hown (hN.get 16 rfl) (fun _ h => h) dX1_changeSetting_23 ?_
        refine lv_iload_n hx hb dX1_changeSetting_26 rfl (lv_at hl 1 rfl) ?_
        obtain ⟨hg5, hf⟩ := gd_s hf
        refine va_ti hx hb hTm hS hg5 (v := .int (tbM x1.toNatClampNeg)) rfl dX1_changeSetting_27 ?_
        refine lv_icmp_le (tgt := 34) hx hb dX1_changeSetting_28 (by decide) (fun hc6 => ?_) (fun hc6 => ?_)
        · replace hf := it hc6 hf
          refine lv_aload_n hx hb dX1_changeSetting_34 rfl (lv_at hl 0 rfl) ?_
          refine va_get hx hb hts n1_ hown hK hP 0 rfl rfl 6 (Nat.le_of_ble_eq_true rfl) k1_ (fun _ h => h) rfl dX1_changeSetting_35 ?_
          refine lv_iload_n hx hb dX1_changeSetting_38 rfl (lv_at hl 1 rfl) ?_
          obtain ⟨hg7, hf⟩ := gd_s hf
          refine va_iald hx hb hK hP 15 0 rfl rfl hg7 dX1_changeSetting_39 ?_
          refine lv_topi (fun v8 ev8 => ?_)
          replace hf := lt_e ev8 hf
          refine lv_istore_n (lv' := [(3, .int v8), (0, .ref gh), (1, .int x1), (2, .int x2)]) hx hb dX1_changeSetting_40 rfl hl (by decide) rfl (fun ls hl => ?_)
          refine lv_aload_n hx hb dX1_changeSetting_41 rfl (lv_at hl 1 rfl) ?_
          refine va_get hx hb hts n1_ hown hK hP 0 rfl rfl 6 (Nat.le_of_ble_eq_true rfl) k1_ (fun _ h => h) rfl dX1_changeSetting_42 ?_
          refine lv_iload_n hx hb dX1_changeSetting_45 rfl (lv_at hl 2 rfl) ?_
          refine lv_iload_n hx hb dX1_changeSetting_46 rfl (lv_at hl 3 rfl) ?_
          obtain ⟨hg9, hf⟩ := gd_s hf
          refine x_iast hx hb hK hP hD hS 15 0 rfl rfl hg9 dX1_changeSetting_47 (fun Z10 H locs eZ10 hP hD hS => ?_)
          replace hf := lt_e eZ10 hf
          have hP : va_P D vwCl (w_grinder cI cC gh a pA pM pn pt d0 w0 g0 k0 d1 w1 g1 k1 qA qM qn qt uA uM un ut sF sk sm Z10 se fi gr br pu nr) H := hP
          have hD : va_D AA (w_grinder cI cC gh a pA pM pn pt d0 w0 g0 k0 d1 w1 g1 k1 qA qM qn qt uA uM un ut sF sk sm Z10 se fi gr br pu nr) := hD
          refine lv_iload_n hx hb dX1_changeSetting_48 rfl (lv_at hl 0 rfl) ?_
          obtain rfl := Option.some.inj hf
          exact ret 49 ls _ H locs dX1_changeSetting_49 rfl rfl hP hS
        · replace hf := ie hc6 hf
          refine lv_ldc hx hb hown k2_ dX1_changeSetting_31 ?_
          obtain rfl := Option.some.inj hf
          exact ret 33 ls _ H locs dX1_changeSetting_33 rfl rfl hP hS
abbrev rmX1_tellSetting : Room := { frames := 1, cells := 0, slots := 0, locals := 0 }
set_option maxHeartbeats 4000000 in
set_option maxRecDepth 100000 in
theorem c_X1_tellSetting (gh : Nat) (a : Nat → Nat) (x1 : Int32) (pA : Nat → Int32) (pM : Nat → Int32) (pn : Int32) (pt : Int32) (d0 : Int32) (w0 : Int32) (g0 : Int32) (k0 : Int32) (d1 : Int32) (w1 : Int32) (g1 : Int32) (k1 : Int32) (qA : Nat → Int32) (qM : Nat → Int32) (qn : Int32) (qt : Int32) (uA : Nat → Int32) (uM : Nat → Int32) (un : Int32) (ut : Int32) (sF : Nat → Int32) (sk : Int32) (sm : Int32) (st : Nat → Int32) (se : Int32) (fi : Int32) (gr : Int32) (br : Int32) (pu : Int32) (nr : Int32) (R : Int32) (hf : f_X1_tellSetting x1 st = some R) : RdI l yX1_tellSetting wsX1_tellSetting rmX1_tellSetting D cI cC (w_grinder cI cC gh a pA pM pn pt d0 w0 g0 k0 d1 w1 g1 k1 qA qM qn qt uA uM un ut sF sk sm st se fi gr br pu nr) [.ref gh, .int x1] R := by
  refine en_R (cc := cX1_tellSetting) (n := 2) (by decide) rfl (Nat.le_of_ble_eq_true rfl) ?_
  intro p e s m args below meth c Q AA ls hx hb hml hown hts hK hN hP hD hl ret
  have hown : s.vm.findClass RX1 = some m.cls := hown
  have hF : FX p m c cX1_tellSetting 2 s args wsX1_tellSetting RX1 D cI cC := ⟨⟨hx, hb, hml, hown, hts⟩, hK, hN⟩
  have hl : lv_has ls 2 [(0, .ref gh), (1, .int x1)] := hl
  have k1_ := hts (.fieldLink RX1 47 "DriftGrinders$Grinder" "settings" "[I") (List.mem_of_getElem? (i := 1) rfl)
  have k2_ := hts (.constant RX1 93 (-1000001)) (List.mem_of_getElem? (i := 2) rfl)
  have n1_ : ∀ w ∈ wsX10, w ∈ wsX1_tellSetting := fun _ h => List.mem_cons_of_mem _ (List.mem_append_right _ h)
  rw [f_X1_tellSetting] at hf
  refine lv_iload_n hx hb dX1_tellSetting_0 rfl (lv_at hl 1 rfl) ?_
  refine lv_bipush (v := (20 : Int32)) hx hb dX1_tellSetting_1 (by decide) ?_
  refine lv_icmp_lt (tgt := 18) hx hb dX1_tellSetting_3 (by decide) (fun hc1 => ?_) (fun hc1 => ?_)
  · replace hf := it hc1 hf
    refine lv_ldc hx hb hown k2_ dX1_tellSetting_18 ?_
    obtain rfl := Option.some.inj hf
    exact ret 20 ls _ dX1_tellSetting_20 rfl rfl
  · replace hf := ie hc1 hf
    refine lv_iload_n hx hb dX1_tellSetting_6 rfl (lv_at hl 1 rfl) ?_
    refine lv_bipush (v := (20 : Int32)) hx hb dX1_tellSetting_7 (by decide) ?_
    refine lv_aload_n hx hb dX1_tellSetting_9 rfl (lv_at hl 0 rfl) ?_
    refine va_get hx hb hts n1_ hown hK hP 0 rfl rfl 6 (Nat.le_of_ble_eq_true rfl) k1_ (fun _ h => h) rfl dX1_tellSetting_10 ?_
    refine va_alen hx hb hK hP 15 0 rfl rfl (v := (6 : Int32)) rfl dX1_tellSetting_13 ?_
    refine lv_iadd hx hb dX1_tellSetting_14 ?_
    refine lv_icmp_lt (tgt := 21) hx hb dX1_tellSetting_15 (by decide) (fun hc2 => ?_) (fun hc2 => ?_)
    · replace hf := it hc2 hf
      refine lv_aload_n hx hb dX1_tellSetting_21 rfl (lv_at hl 0 rfl) ?_
      refine va_get hx hb hts n1_ hown hK hP 0 rfl rfl 6 (Nat.le_of_ble_eq_true rfl) k1_ (fun _ h => h) rfl dX1_tellSetting_22 ?_
      refine lv_iload_n hx hb dX1_tellSetting_25 rfl (lv_at hl 1 rfl) ?_
      refine lv_bipush (v := (20 : Int32)) hx hb dX1_tellSetting_26 (by decide) ?_
      refine lv_isub hx hb dX1_tellSetting_28 ?_
      obtain ⟨hg3, hf⟩ := gd_s hf
      refine va_iald hx hb hK hP 15 0 rfl rfl hg3 dX1_tellSetting_29 ?_
      obtain rfl := Option.some.inj hf
      exact ret 30 ls _ dX1_tellSetting_30 rfl rfl
    · replace hf := ie hc2 hf
      refine lv_ldc hx hb hown k2_ dX1_tellSetting_18 ?_
      obtain rfl := Option.some.inj hf
      exact ret 20 ls _ dX1_tellSetting_20 rfl rfl
abbrev rmX1_tell : Room := { frames := 2, cells := 0, slots := 0, locals := 21 }
set_option maxHeartbeats 4000000 in
set_option maxRecDepth 100000 in
theorem c_X1_tell (gh : Nat) (a : Nat → Nat) (x1 : Int32) (pA : Nat → Int32) (pM : Nat → Int32) (pn : Int32) (pt : Int32) (d0 : Int32) (w0 : Int32) (g0 : Int32) (k0 : Int32) (d1 : Int32) (w1 : Int32) (g1 : Int32) (k1 : Int32) (qA : Nat → Int32) (qM : Nat → Int32) (qn : Int32) (qt : Int32) (uA : Nat → Int32) (uM : Nat → Int32) (un : Int32) (ut : Int32) (sF : Nat → Int32) (sk : Int32) (sm : Int32) (st : Nat → Int32) (se : Int32) (fi : Int32) (gr : Int32) (br : Int32) (pu : Int32) (nr : Int32) (R : Int32) (hf : f_X1_tell x1 pt qt ut sm st se fi gr br pu nr = some R) : RdI l yX1_tell wsX1_tell rmX1_tell D cI cC (w_grinder cI cC gh a pA pM pn pt d0 w0 g0 k0 d1 w1 g1 k1 qA qM qn qt uA uM un ut sF sk sm st se fi gr br pu nr) [.ref gh, .int x1] R := by
  refine en_R (cc := cX1_tell) (n := 2) (by decide) rfl (Nat.le_of_ble_eq_true rfl) ?_
  intro p e s m args below meth c Q AA ls hx hb hml hown hts hK hN hP hD hl ret
  have hown : s.vm.findClass RX1 = some m.cls := hown
  have hF : FX p m c cX1_tell 2 s args wsX1_tell RX1 D cI cC := ⟨⟨hx, hb, hml, hown, hts⟩, hK, hN⟩
  have hl : lv_has ls 2 [(0, .ref gh), (1, .int x1)] := hl
  have k10_ := hts (.fieldLink RX1 86 "DriftGrinders$Grinder" "shotsNearTarget" "I") (List.mem_of_getElem? (i := 10) rfl)
  have k1_ := hts (.fieldLink RX1 70 "DriftGrinders$Grinder" "second" "I") (List.mem_of_getElem? (i := 1) rfl)
  have k2_ := hts (.fieldLink RX1 74 "DriftGrinders$Grinder" "filled" "I") (List.mem_of_getElem? (i := 2) rfl)
  have k3_ := hts (.fieldLink RX1 77 "DriftGrinders$Grinder" "ground" "I") (List.mem_of_getElem? (i := 3) rfl)
  have k4_ := hts (.fieldLink RX1 80 "DriftGrinders$Grinder" "brewed" "I") (List.mem_of_getElem? (i := 4) rfl)
  have k5_ := hts (.fieldLink RX1 83 "DriftGrinders$Grinder" "purged" "I") (List.mem_of_getElem? (i := 5) rfl)
  have k6_ := hts (.fieldLink RX1 12 "DriftGrinders$Grinder" "hopper" "LDriftGrinders$Hopper;") (List.mem_of_getElem? (i := 6) rfl)
  have k7_ := hts (.fieldLink RX1 33 "DriftGrinders$Grinder" "chute" "LDriftGrinders$Row;") (List.mem_of_getElem? (i := 7) rfl)
  have k8_ := hts (.fieldLink RX1 37 "DriftGrinders$Grinder" "basket" "LDriftGrinders$Row;") (List.mem_of_getElem? (i := 8) rfl)
  have k9_ := hts (.fieldLink RX1 43 "DriftGrinders$Grinder" "shots" "LDriftGrinders$Shots;") (List.mem_of_getElem? (i := 9) rfl)
  have n1_ : ∀ w ∈ wsX10, w ∈ wsX1_tell := fun _ h => List.mem_cons_of_mem _ (List.mem_append_left _ (List.mem_append_left _ (List.mem_append_left _ (List.mem_append_right _ h))))
  have n5_ : ∀ w ∈ wsX50, w ∈ wsX1_tell := fun _ h => List.mem_cons_of_mem _ (List.mem_append_left _ (List.mem_append_left _ (List.mem_append_right _ h)))
  have n6_ : ∀ w ∈ wsX60, w ∈ wsX1_tell := fun _ h => List.mem_cons_of_mem _ (List.mem_append_left _ (List.mem_append_right _ h))
  rw [f_X1_tell] at hf
  refine lv_iload_n hx hb dX1_tell_0 rfl (lv_at hl 1 rfl) ?_
  by_cases hc1 : x1 = 0
  · replace hf := it hc1 hf
    refine lv_tableIn (off := 55) (tgt := 56) hx hb dX1_tell_1 (by rw [hc1]; decide) (by rw [hc1]; decide) (by rw [hc1]; rfl) (by decide) ?_
    refine lv_aload_n hx hb dX1_tell_56 rfl (lv_at hl 0 rfl) ?_
    refine va_get hx hb hts n1_ hown hK hP 0 rfl rfl 7 (Nat.le_of_ble_eq_true rfl) k1_ (fun _ h => h) rfl dX1_tell_57 ?_
    obtain rfl := Option.some.inj hf
    exact ret 60 ls _ dX1_tell_60 rfl rfl
  replace hf := ie hc1 hf
  by_cases hc2 : x1 = 1
  · replace hf := it hc2 hf
    refine lv_tableIn (off := 60) (tgt := 61) hx hb dX1_tell_1 (by rw [hc2]; decide) (by rw [hc2]; decide) (by rw [hc2]; rfl) (by decide) ?_
    refine lv_aload_n hx hb dX1_tell_61 rfl (lv_at hl 0 rfl) ?_
    refine va_get hx hb hts n1_ hown hK hP 0 rfl rfl 8 (Nat.le_of_ble_eq_true rfl) k2_ (fun _ h => h) rfl dX1_tell_62 ?_
    obtain rfl := Option.some.inj hf
    exact ret 65 ls _ dX1_tell_65 rfl rfl
  replace hf := ie hc2 hf
  by_cases hc3 : x1 = 2
  · replace hf := it hc3 hf
    refine lv_tableIn (off := 65) (tgt := 66) hx hb dX1_tell_1 (by rw [hc3]; decide) (by rw [hc3]; decide) (by rw [hc3]; rfl) (by decide) ?_
    refine lv_aload_n hx hb dX1_tell_66 rfl (lv_at hl 0 rfl) ?_
    refine va_get hx hb hts n1_ hown hK hP 0 rfl rfl 9 (Nat.le_of_ble_eq_true rfl) k3_ (fun _ h => h) rfl dX1_tell_67 ?_
    obtain rfl := Option.some.inj hf
    exact ret 70 ls _ dX1_tell_70 rfl rfl
  replace hf := ie hc3 hf
  by_cases hc4 : x1 = 3
  · replace hf := it hc4 hf
    refine lv_tableIn (off := 70) (tgt := 71) hx hb dX1_tell_1 (by rw [hc4]; decide) (by rw [hc4]; decide) (by rw [hc4]; rfl) (by decide) ?_
    refine lv_aload_n hx hb dX1_tell_71 rfl (lv_at hl 0 rfl) ?_
    refine va_get hx hb hts n1_ hown hK hP 0 rfl rfl 10 (Nat.le_of_ble_eq_true rfl) k4_ (fun _ h => h) rfl dX1_tell_72 ?_
    obtain rfl := Option.some.inj hf
    exact ret 75 ls _ dX1_tell_75 rfl rfl
  replace hf := ie hc4 hf
  by_cases hc5 : x1 = 4
  · replace hf := it hc5 hf
    refine lv_tableIn (off := 75) (tgt := 76) hx hb dX1_tell_1 (by rw [hc5]; decide) (by rw [hc5]; decide) (by rw [hc5]; rfl) (by decide) ?_
    refine lv_aload_n hx hb dX1_tell_76 rfl (lv_at hl 0 rfl) ?_
    refine va_get hx hb hts n1_ hown hK hP 0 rfl rfl 11 (Nat.le_of_ble_eq_true rfl) k5_ (fun _ h => h) rfl dX1_tell_77 ?_
    obtain rfl := Option.some.inj hf
    exact ret 80 ls _ dX1_tell_80 rfl rfl
  replace hf := ie hc5 hf
  by_cases hc6 : x1 = 5
  · replace hf := it hc6 hf
    refine lv_tableIn (off := 80) (tgt := 81) hx hb dX1_tell_1 (by rw [hc6]; decide) (by rw [hc6]; decide) (by rw [hc6]; rfl) (by decide) ?_
    refine lv_aload_n hx hb dX1_tell_81 rfl (lv_at hl 0 rfl) ?_
    refine va_get hx hb hts n1_ hown hK hP 0 rfl rfl 0 (Nat.le_of_ble_eq_true rfl) k6_ (fun _ h => h) rfl dX1_tell_82 ?_
    obtain ⟨q7, hq7, hf⟩ := ob hf
    refine cl_RV (As := []) (rest := []) hF hP hD (c_X3_amount (a 1) (a 2) (a 3) (a 4) 6 pA pM pn pt q7 hq7) (cwV 0 hts gX1_tell_X3_amount rfl rfl rfl (by decide +kernel) ⟨(Nat.le_of_ble_eq_true rfl), (Nat.le_of_ble_eq_true rfl)⟩) [1, 2, 3, 4] rfl (by decide +kernel) (va_recv hK hP (ci := 3) (q0 := 1) rfl rfl) rfl rfl hl.1 (Nat.le_of_ble_eq_true rfl) dX1_tell_85 ⟨Nat.zero_le _, Nat.zero_le _⟩ ?_
    obtain rfl := Option.some.inj hf
    exact ret 88 ls _ dX1_tell_88 rfl rfl
  replace hf := ie hc6 hf
  by_cases hc8 : x1 = 6
  · replace hf := it hc8 hf
    refine lv_tableIn (off := 88) (tgt := 89) hx hb dX1_tell_1 (by rw [hc8]; decide) (by rw [hc8]; decide) (by rw [hc8]; rfl) (by decide) ?_
    refine lv_aload_n hx hb dX1_tell_89 rfl (lv_at hl 0 rfl) ?_
    refine va_get hx hb hts n1_ hown hK hP 0 rfl rfl 3 (Nat.le_of_ble_eq_true rfl) k7_ (fun _ h => h) rfl dX1_tell_90 ?_
    refine va_getN hx hb hts n5_ hown hK hP 7 rfl rfl 3 (Nat.le_of_ble_eq_true rfl) (hN.get 3 rfl) (fun _ h => h) rfl dX1_tell_93 ?_
    obtain rfl := Option.some.inj hf
    exact ret 96 ls _ dX1_tell_96 rfl rfl
  replace hf := ie hc8 hf
  by_cases hc9 : x1 = 7
  · replace hf := it hc9 hf
    refine lv_tableIn (off := 96) (tgt := 97) hx hb dX1_tell_1 (by rw [hc9]; decide) (by rw [hc9]; decide) (by rw [hc9]; rfl) (by decide) ?_
    refine lv_aload_n hx hb dX1_tell_97 rfl (lv_at hl 0 rfl) ?_
    refine va_get hx hb hts n1_ hown hK hP 0 rfl rfl 4 (Nat.le_of_ble_eq_true rfl) k8_ (fun _ h => h) rfl dX1_tell_98 ?_
    refine va_getN hx hb hts n5_ hown hK hP 10 rfl rfl 3 (Nat.le_of_ble_eq_true rfl) (hN.get 3 rfl) (fun _ h => h) rfl dX1_tell_101 ?_
    obtain rfl := Option.some.inj hf
    exact ret 104 ls _ dX1_tell_104 rfl rfl
  replace hf := ie hc9 hf
  by_cases hc10 : x1 = 8
  · replace hf := it hc10 hf
    refine lv_tableIn (off := 104) (tgt := 105) hx hb dX1_tell_1 (by rw [hc10]; decide) (by rw [hc10]; decide) (by rw [hc10]; rfl) (by decide) ?_
    refine lv_aload_n hx hb dX1_tell_105 rfl (lv_at hl 0 rfl) ?_
    refine va_get hx hb hts n1_ hown hK hP 0 rfl rfl 5 (Nat.le_of_ble_eq_true rfl) k9_ (fun _ h => h) rfl dX1_tell_106 ?_
    refine va_getN hx hb hts n6_ hown hK hP 13 rfl rfl 2 (Nat.le_of_ble_eq_true rfl) (hN.get 7 rfl) (fun _ h => h) rfl dX1_tell_109 ?_
    obtain rfl := Option.some.inj hf
    exact ret 112 ls _ dX1_tell_112 rfl rfl
  replace hf := ie hc10 hf
  by_cases hc11 : x1 = 9
  · replace hf := it hc11 hf
    refine lv_tableIn (off := 112) (tgt := 113) hx hb dX1_tell_1 (by rw [hc11]; decide) (by rw [hc11]; decide) (by rw [hc11]; rfl) (by decide) ?_
    refine lv_aload_n hx hb dX1_tell_113 rfl (lv_at hl 0 rfl) ?_
    refine va_get hx hb hts n1_ hown hK hP 0 rfl rfl 12 (Nat.le_of_ble_eq_true rfl) k10_ (fun _ h => h) rfl dX1_tell_114 ?_
    obtain rfl := Option.some.inj hf
    exact ret 117 ls _ dX1_tell_117 rfl rfl
  replace hf := ie hc11 hf
  refine lv_tableOut (tgt := 118) hx hb dX1_tell_1 (by have q0 := gt_ne hc1 (k := 0) rfl; have q1 := gt_ne hc2 (k := 1) rfl; have q2 := gt_ne hc3 (k := 2) rfl; have q3 := gt_ne hc4 (k := 3) rfl; have q4 := gt_ne hc5 (k := 4) rfl; have q5 := gt_ne hc6 (k := 5) rfl; have q6 := gt_ne hc8 (k := 6) rfl; have q7 := gt_ne hc9 (k := 7) rfl; have q8 := gt_ne hc10 (k := 8) rfl; have q9 := gt_ne hc11 (k := 9) rfl; omega) (by decide) ?_
  refine lv_aload_n hx hb dX1_tell_118 rfl (lv_at hl 0 rfl) ?_
  refine lv_iload_n hx hb dX1_tell_119 rfl (lv_at hl 1 rfl) ?_
  obtain ⟨q12, hq12, hf⟩ := ob hf
  refine cl_RV (As := [.int x1]) (rest := []) hF hP hD (c_X1_tellSetting gh a x1 pA pM pn pt d0 w0 g0 k0 d1 w1 g1 k1 qA qM qn qt uA uM un ut sF sk sm st se fi gr br pu nr q12 hq12) (cwV 1 hts gX1_tell_X1_tellSetting rfl rfl rfl (by decide +kernel) ⟨(Nat.le_of_ble_eq_true rfl), (Nat.le_of_ble_eq_true rfl)⟩) [0, 1, 2, 3, 4, 5, 6, 7, 8, 9, 10, 11, 12, 13, 14, 15] rfl (by decide +kernel) (va_recv hK hP (ci := 1) (q0 := 0) rfl rfl) rfl rfl hl.1 (Nat.le_of_ble_eq_true rfl) dX1_tell_120 ⟨Nat.zero_le _, Nat.zero_le _⟩ ?_
  obtain rfl := Option.some.inj hf
  exact ret 123 ls _ dX1_tell_123 rfl rfl
abbrev rmX1_tellPortion_q : Room := { frames := 3, cells := 0, slots := 0, locals := 42 }
set_option maxHeartbeats 4000000 in
set_option maxRecDepth 100000 in
theorem c_X1_tellPortion_q (gh : Nat) (a : Nat → Nat) (x2 : Int32) (x3 : Int32) (pA : Nat → Int32) (pM : Nat → Int32) (pn : Int32) (pt : Int32) (d0 : Int32) (w0 : Int32) (g0 : Int32) (k0 : Int32) (d1 : Int32) (w1 : Int32) (g1 : Int32) (k1 : Int32) (qA : Nat → Int32) (qM : Nat → Int32) (qn : Int32) (qt : Int32) (uA : Nat → Int32) (uM : Nat → Int32) (un : Int32) (ut : Int32) (sF : Nat → Int32) (sk : Int32) (sm : Int32) (st : Nat → Int32) (se : Int32) (fi : Int32) (gr : Int32) (br : Int32) (pu : Int32) (nr : Int32) (R : Int32) (hf : f_X1_tellPortion_q x2 x3 qA qM qn st = some R) : RdI l yX1_tellPortion wsX1_tellPortion rmX1_tellPortion_q D cI cC (w_grinder cI cC gh a pA pM pn pt d0 w0 g0 k0 d1 w1 g1 k1 qA qM qn qt uA uM un ut sF sk sm st se fi gr br pu nr) [.ref gh, .ref (a 7), .int x2, .int x3] R := by
  refine en_R (cc := cX1_tellPortion) (n := 5) (by decide) rfl (Nat.le_of_ble_eq_true rfl) ?_
  intro p e s m args below meth c Q AA ls hx hb hml hown hts hK hN hP hD hl ret
  have hown : s.vm.findClass RX1 = some m.cls := hown
  have hF : FX p m c cX1_tellPortion 5 s args wsX1_tellPortion RX1 D cI cC := ⟨⟨hx, hb, hml, hown, hts⟩, hK, hN⟩
  have hl : lv_has ls 5 [(0, .ref gh), (1, .ref (a 7)), (2, .int x2), (3, .int x3)] := hl
  have k14_ := hts (.static yX7_kindOfMark) (List.mem_of_getElem? (i := 14) rfl)
  have k15_ := hts (.initialized RX7) (List.mem_of_getElem? (i := 15) rfl)
  have k17_ := hts (.static yX7_burrOfMark) (List.mem_of_getElem? (i := 17) rfl)
  have k19_ := hts (.static yX7_gapOfMark) (List.mem_of_getElem? (i := 19) rfl)
  have k1_ := hts (.constant RX1 206 (-1000004)) (List.mem_of_getElem? (i := 1) rfl)
  have n5_ : ∀ w ∈ wsX50, w ∈ wsX1_tellPortion := fun _ h => List.mem_cons_of_mem _ (List.mem_append_left _ (List.mem_append_right _ h))
  rw [f_X1_tellPortion_q] at hf
  refine lv_iload_n hx hb dX1_tellPortion_0 rfl (lv_at hl 2 rfl) ?_
  refine lv_aload_n hx hb dX1_tellPortion_1 rfl (lv_at hl 1 rfl) ?_
  refine va_getN hx hb hts n5_ hown hK hP 7 rfl rfl 2 (Nat.le_of_ble_eq_true rfl) (hN.get 1 rfl) (fun _ h => h) rfl dX1_tellPortion_2 ?_
  refine lv_icmp_lt (tgt := 11) hx hb dX1_tellPortion_5 (by decide) (fun hc1 => ?_) (fun hc1 => ?_)
  · replace hf := it hc1 hf
    refine lv_aload_n hx hb dX1_tellPortion_11 rfl (lv_at hl 1 rfl) ?_
    refine lv_iload_n hx hb dX1_tellPortion_12 rfl (lv_at hl 2 rfl) ?_
    obtain ⟨q2, hq2, hf⟩ := ob hf
    refine cl_RV (As := [.int x2]) (rest := []) hF hP hD (c_X5_markAt (a 7) (a 8) (a 9) 106 x2 qA qM qn qt q2 hq2) (cwV 1 hts gX1_tellPortion_X5_markAt rfl rfl rfl (by decide +kernel) ⟨(Nat.le_of_ble_eq_true rfl), (Nat.le_of_ble_eq_true rfl)⟩) [7, 8, 9] rfl (by decide +kernel) (va_recv hK hP (ci := 5) (q0 := 7) rfl rfl) rfl rfl hl.1 (Nat.le_of_ble_eq_true rfl) dX1_tellPortion_13 ⟨Nat.zero_le _, Nat.zero_le _⟩ ?_
    refine lv_istore (lv' := [(4, .int q2), (0, .ref gh), (1, .ref (a 7)), (2, .int x2), (3, .int x3)]) hx hb dX1_tellPortion_16 hl (by decide) rfl (fun ls hl => ?_)
    refine lv_iload_n hx hb dX1_tellPortion_18 rfl (lv_at hl 4 rfl) ?_
    by_cases hc3 : x3 = 0
    · replace hf := it hc3 hf
      refine lv_tableIn (off := 29) (tgt := 48) hx hb dX1_tellPortion_19 (by rw [hc3]; decide) (by rw [hc3]; decide) (by rw [hc3]; rfl) (by decide) ?_
      refine lv_aload_n hx hb dX1_tellPortion_48 rfl (lv_at hl 2 rfl) ?_
      refine lv_iload_n hx hb dX1_tellPortion_49 rfl (lv_at hl 3 rfl) ?_
      obtain ⟨q4, hq4, hf⟩ := ob hf
      refine cl_RV (As := [.int x2]) (rest := []) hF hP hD (c_X5_amountAt (a 7) (a 8) (a 9) 106 x2 qA qM qn qt q4 hq4) (cwV 1 hts gX1_tellPortion_X5_amountAt rfl rfl rfl (by decide +kernel) ⟨(Nat.le_of_ble_eq_true rfl), (Nat.le_of_ble_eq_true rfl)⟩) [7, 8, 9] rfl (by decide +kernel) (va_recv hK hP (ci := 5) (q0 := 7) rfl rfl) rfl rfl hl.1 (Nat.le_of_ble_eq_true rfl) dX1_tellPortion_50 ⟨Nat.zero_le _, Nat.zero_le _⟩ ?_
      obtain rfl := Option.some.inj hf
      exact ret 53 ls _ dX1_tellPortion_53 rfl rfl
    replace hf := ie hc3 hf
    by_cases hc5 : x3 = 1
    · replace hf := it hc5 hf
      refine lv_tableIn (off := 35) (tgt := 54) hx hb dX1_tellPortion_19 (by rw [hc5]; decide) (by rw [hc5]; decide) (by rw [hc5]; rfl) (by decide) ?_
      refine lv_iload hx hb dX1_tellPortion_54 (lv_at hl 0 rfl) ?_
      obtain ⟨q6, hq6, hf⟩ := ob hf
      refine cl_RN (As := [.int q2]) (rest := []) hF hP hD (c_X7_kindOfMark q2 q6 hq6) ⟨va_cnB 1 hts gX1_tellPortion_X7_kindOfMark_n182 rfl rfl rfl (hN.nw 24 rfl) k15_ (by decide +kernel) ⟨(Nat.le_of_ble_eq_true rfl), (Nat.le_of_ble_eq_true rfl)⟩, k14_, trivial⟩ [] rfl (by decide +kernel) rfl rfl hl.1 (Nat.le_of_ble_eq_true rfl) dX1_tellPortion_56 ⟨Nat.zero_le _, Nat.zero_le _⟩ ?_
      obtain rfl := Option.some.inj hf
      exact ret 59 ls _ dX1_tellPortion_59 rfl rfl
    replace hf := ie hc5 hf
    by_cases hc7 : x3 = 2
    · replace hf := it hc7 hf
      refine lv_tableIn (off := 41) (tgt := 60) hx hb dX1_tellPortion_19 (by rw [hc7]; decide) (by rw [hc7]; decide) (by rw [hc7]; rfl) (by decide) ?_
      refine lv_iload hx hb dX1_tellPortion_60 (lv_at hl 0 rfl) ?_
      obtain ⟨q8, hq8, hf⟩ := ob hf
      refine cl_RN (As := [.int q2]) (rest := []) hF hP hD (c_X7_burrOfMark q2 q8 hq8) ⟨va_cnB 1 hts gX1_tellPortion_X7_burrOfMark_n207 rfl rfl rfl (hN.nw 25 rfl) k15_ (by decide +kernel) ⟨(Nat.le_of_ble_eq_true rfl), (Nat.le_of_ble_eq_true rfl)⟩, k17_, trivial⟩ [] rfl (by decide +kernel) rfl rfl hl.1 (Nat.le_of_ble_eq_true rfl) dX1_tellPortion_62 ⟨Nat.zero_le _, Nat.zero_le _⟩ ?_
      obtain rfl := Option.some.inj hf
      exact ret 65 ls _ dX1_tellPortion_65 rfl rfl
    replace hf := ie hc7 hf
    by_cases hc9 : x3 = 3
    · replace hf := it hc9 hf
      refine lv_tableIn (off := 47) (tgt := 66) hx hb dX1_tellPortion_19 (by rw [hc9]; decide) (by rw [hc9]; decide) (by rw [hc9]; rfl) (by decide) ?_
      refine lv_iload hx hb dX1_tellPortion_66 (lv_at hl 0 rfl) ?_
      obtain ⟨q10, hq10, hf⟩ := ob hf
      refine cl_RN (As := [.int q2]) (rest := []) hF hP hD (c_X7_gapOfMark q2 q10 hq10) ⟨va_cnB 1 hts gX1_tellPortion_X7_gapOfMark_n188 rfl rfl rfl (hN.nw 26 rfl) k15_ (by decide +kernel) ⟨(Nat.le_of_ble_eq_true rfl), (Nat.le_of_ble_eq_true rfl)⟩, k19_, trivial⟩ [] rfl (by decide +kernel) rfl rfl hl.1 (Nat.le_of_ble_eq_true rfl) dX1_tellPortion_68 ⟨Nat.zero_le _, Nat.zero_le _⟩ ?_
      obtain rfl := Option.some.inj hf
      exact ret 71 ls _ dX1_tellPortion_71 rfl rfl
    replace hf := ie hc9 hf
    refine lv_tableOut (tgt := 72) hx hb dX1_tellPortion_19 (by have q0 := gt_ne hc3 (k := 0) rfl; have q1 := gt_ne hc5 (k := 1) rfl; have q2 := gt_ne hc7 (k := 2) rfl; have q3 := gt_ne hc9 (k := 3) rfl; omega) (by decide) ?_
    refine lv_aload_n hx hb dX1_tellPortion_72 rfl (lv_at hl 1 rfl) ?_
    refine lv_iload hx hb dX1_tellPortion_73 (lv_at hl 0 rfl) ?_
    obtain ⟨q11, hq11, hf⟩ := ob hf
    refine cl_RV (As := [.int q2]) (rest := []) hF hP hD (c_X1_flowOfMark gh a q2 pA pM pn pt d0 w0 g0 k0 d1 w1 g1 k1 qA qM qn qt uA uM un ut sF sk sm st se fi gr br pu nr q11 hq11) (cwV 1 hts gX1_tellPortion_X1_flowOfMark rfl rfl rfl (by decide +kernel) ⟨(Nat.le_of_ble_eq_true rfl), (Nat.le_of_ble_eq_true rfl)⟩) [0, 1, 2, 3, 4, 5, 6, 7, 8, 9, 10, 11, 12, 13, 14, 15] rfl (by decide +kernel) (va_recv hK hP (ci := 1) (q0 := 0) rfl rfl) rfl rfl hl.1 (Nat.le_of_ble_eq_true rfl) dX1_tellPortion_75 ⟨Nat.zero_le _, Nat.zero_le _⟩ ?_
    obtain rfl := Option.some.inj hf
    exact ret 78 ls _ dX1_tellPortion_78 rfl rfl
  · replace hf := ie hc1 hf
    refine lv_ldc hx hb hown k1_ dX1_tellPortion_8 ?_
    obtain rfl := Option.some.inj hf
    exact ret 10 ls _ dX1_tellPortion_10 rfl rfl
abbrev rmX1_tellPortion_u : Room := { frames := 3, cells := 0, slots := 0, locals := 42 }
set_option maxHeartbeats 4000000 in
set_option maxRecDepth 100000 in
theorem c_X1_tellPortion_u (gh : Nat) (a : Nat → Nat) (x2 : Int32) (x3 : Int32) (pA : Nat → Int32) (pM : Nat → Int32) (pn : Int32) (pt : Int32) (d0 : Int32) (w0 : Int32) (g0 : Int32) (k0 : Int32) (d1 : Int32) (w1 : Int32) (g1 : Int32) (k1 : Int32) (qA : Nat → Int32) (qM : Nat → Int32) (qn : Int32) (qt : Int32) (uA : Nat → Int32) (uM : Nat → Int32) (un : Int32) (ut : Int32) (sF : Nat → Int32) (sk : Int32) (sm : Int32) (st : Nat → Int32) (se : Int32) (fi : Int32) (gr : Int32) (br : Int32) (pu : Int32) (nr : Int32) (R : Int32) (hf : f_X1_tellPortion_u x2 x3 uA uM un st = some R) : RdI l yX1_tellPortion wsX1_tellPortion rmX1_tellPortion_u D cI cC (w_grinder cI cC gh a pA pM pn pt d0 w0 g0 k0 d1 w1 g1 k1 qA qM qn qt uA uM un ut sF sk sm st se fi gr br pu nr) [.ref gh, .ref (a 10), .int x2, .int x3] R := by
  refine en_R (cc := cX1_tellPortion) (n := 5) (by decide) rfl (Nat.le_of_ble_eq_true rfl) ?_
  intro p e s m args below meth c Q AA ls hx hb hml hown hts hK hN hP hD hl ret
  have hown : s.vm.findClass RX1 = some m.cls := hown
  have hF : FX p m c cX1_tellPortion 5 s args wsX1_tellPortion RX1 D cI cC := ⟨⟨hx, hb, hml, hown, hts⟩, hK, hN⟩
  have hl : lv_has ls 5 [(0, .ref gh), (1, .ref (a 10)), (2, .int x2), (3, .int x3)] := hl
  have k14_ := hts (.static yX7_kindOfMark) (List.mem_of_getElem? (i := 14) rfl)
  have k15_ := hts (.initialized RX7) (List.mem_of_getElem? (i := 15) rfl)
  have k17_ := hts (.static yX7_burrOfMark) (List.mem_of_getElem? (i := 17) rfl)
  have k19_ := hts (.static yX7_gapOfMark) (List.mem_of_getElem? (i := 19) rfl)
  have k1_ := hts (.constant RX1 206 (-1000004)) (List.mem_of_getElem? (i := 1) rfl)
  have n5_ : ∀ w ∈ wsX50, w ∈ wsX1_tellPortion := fun _ h => List.mem_cons_of_mem _ (List.mem_append_left _ (List.mem_append_right _ h))
  rw [f_X1_tellPortion_u] at hf
  refine lv_iload_n hx hb dX1_tellPortion_0 rfl (lv_at hl 2 rfl) ?_
  refine lv_aload_n hx hb dX1_tellPortion_1 rfl (lv_at hl 1 rfl) ?_
  refine va_getN hx hb hts n5_ hown hK hP 10 rfl rfl 2 (Nat.le_of_ble_eq_true rfl) (hN.get 1 rfl) (fun _ h => h) rfl dX1_tellPortion_2 ?_
  refine lv_icmp_lt (tgt := 11) hx hb dX1_tellPortion_5 (by decide) (fun hc1 => ?_) (fun hc1 => ?_)
  · replace hf := it hc1 hf
    refine lv_aload_n hx hb dX1_tellPortion_11 rfl (lv_at hl 1 rfl) ?_
    refine lv_iload_n hx hb dX1_tellPortion_12 rfl (lv_at hl 2 rfl) ?_
    obtain ⟨q2, hq2, hf⟩ := ob hf
    refine cl_RV (As := [.int x2]) (rest := []) hF hP hD (c_X5_markAt (a 10) (a 11) (a 12) 400 x2 uA uM un ut q2 hq2) (cwV 1 hts gX1_tellPortion_X5_markAt rfl rfl rfl (by decide +kernel) ⟨(Nat.le_of_ble_eq_true rfl), (Nat.le_of_ble_eq_true rfl)⟩) [10, 11, 12] rfl (by decide +kernel) (va_recv hK hP (ci := 5) (q0 := 10) rfl rfl) rfl rfl hl.1 (Nat.le_of_ble_eq_true rfl) dX1_tellPortion_13 ⟨Nat.zero_le _, Nat.zero_le _⟩ ?_
    refine lv_istore (lv' := [(4, .int q2), (0, .ref gh), (1, .ref (a 10)), (2, .int x2), (3, .int x3)]) hx hb dX1_tellPortion_16 hl (by decide) rfl (fun ls hl => ?_)
    refine lv_iload_n hx hb dX1_tellPortion_18 rfl (lv_at hl 4 rfl) ?_
    by_cases hc3 : x3 = 0
    · replace hf := it hc3 hf
      refine lv_tableIn (off := 29) (tgt := 48) hx hb dX1_tellPortion_19 (by rw [hc3]; decide) (by rw [hc3]; decide) (by rw [hc3]; rfl) (by decide) ?_
      refine lv_aload_n hx hb dX1_tellPortion_48 rfl (lv_at hl 2 rfl) ?_
      refine lv_iload_n hx hb dX1_tellPortion_49 rfl (lv_at hl 3 rfl) ?_
      obtain ⟨q4, hq4, hf⟩ := ob hf
      refine cl_RV (As := [.int x2]) (rest := []) hF hP hD (c_X5_amountAt (a 10) (a 11) (a 12) 400 x2 uA uM un ut q4 hq4) (cwV 1 hts gX1_tellPortion_X5_amountAt rfl rfl rfl (by decide +kernel) ⟨(Nat.le_of_ble_eq_true rfl), (Nat.le_of_ble_eq_true rfl)⟩) [10, 11, 12] rfl (by decide +kernel) (va_recv hK hP (ci := 5) (q0 := 10) rfl rfl) rfl rfl hl.1 (Nat.le_of_ble_eq_true rfl) dX1_tellPortion_50 ⟨Nat.zero_le _, Nat.zero_le _⟩ ?_
      obtain rfl := Option.some.inj hf
      exact ret 53 ls _ dX1_tellPortion_53 rfl rfl
    replace hf := ie hc3 hf
    by_cases hc5 : x3 = 1
    · replace hf := it hc5 hf
      refine lv_tableIn (off := 35) (tgt := 54) hx hb dX1_tellPortion_19 (by rw [hc5]; decide) (by rw [hc5]; decide) (by rw [hc5]; rfl) (by decide) ?_
      refine lv_iload hx hb dX1_tellPortion_54 (lv_at hl 0 rfl) ?_
      obtain ⟨q6, hq6, hf⟩ := ob hf
      refine cl_RN (As := [.int q2]) (rest := []) hF hP hD (c_X7_kindOfMark q2 q6 hq6) ⟨va_cnB 1 hts gX1_tellPortion_X7_kindOfMark_n182 rfl rfl rfl (hN.nw 24 rfl) k15_ (by decide +kernel) ⟨(Nat.le_of_ble_eq_true rfl), (Nat.le_of_ble_eq_true rfl)⟩, k14_, trivial⟩ [] rfl (by decide +kernel) rfl rfl hl.1 (Nat.le_of_ble_eq_true rfl) dX1_tellPortion_56 ⟨Nat.zero_le _, Nat.zero_le _⟩ ?_
      obtain rfl := Option.some.inj hf
      exact ret 59 ls _ dX1_tellPortion_59 rfl rfl
    replace hf := ie hc5 hf
    by_cases hc7 : x3 = 2
    · replace hf := it hc7 hf
      refine lv_tableIn (off := 41) (tgt := 60) hx hb dX1_tellPortion_19 (by rw [hc7]; decide) (by rw [hc7]; decide) (by rw [hc7]; rfl) (by decide) ?_
      refine lv_iload hx hb dX1_tellPortion_60 (lv_at hl 0 rfl) ?_
      obtain ⟨q8, hq8, hf⟩ := ob hf
      refine cl_RN (As := [.int q2]) (rest := []) hF hP hD (c_X7_burrOfMark q2 q8 hq8) ⟨va_cnB 1 hts gX1_tellPortion_X7_burrOfMark_n207 rfl rfl rfl (hN.nw 25 rfl) k15_ (by decide +kernel) ⟨(Nat.le_of_ble_eq_true rfl), (Nat.le_of_ble_eq_true rfl)⟩, k17_, trivial⟩ [] rfl (by decide +kernel) rfl rfl hl.1 (Nat.le_of_ble_eq_true rfl) dX1_tellPortion_62 ⟨Nat.zero_le _, Nat.zero_le _⟩ ?_
      obtain rfl := Option.some.inj hf
      exact ret 65 ls _ dX1_tellPortion_65 rfl rfl
    replace hf := ie hc7 hf
    by_cases hc9 : x3 = 3
    · replace hf := it hc9 hf
      refine lv_tableIn (off := 47) (tgt := 66) hx hb dX1_tellPortion_19 (by rw [hc9]; decide) (by rw [hc9]; decide) (by rw [hc9]; rfl) (by decide) ?_
      refine lv_iload hx hb dX1_tellPortion_66 (lv_at hl 0 rfl) ?_
      obtain ⟨q10, hq10, hf⟩ := ob hf
      refine cl_RN (As := [.int q2]) (rest := []) hF hP hD (c_X7_gapOfMark q2 q10 hq10) ⟨va_cnB 1 hts gX1_tellPortion_X7_gapOfMark_n188 rfl rfl rfl (hN.nw 26 rfl) k15_ (by decide +kernel) ⟨(Nat.le_of_ble_eq_true rfl), (Nat.le_of_ble_eq_true rfl)⟩, k19_, trivial⟩ [] rfl (by decide +kernel) rfl rfl hl.1 (Nat.le_of_ble_eq_true rfl) dX1_tellPortion_68 ⟨Nat.zero_le _, Nat.zero_le _⟩ ?_
      obtain rfl := Option.some.inj hf
      exact ret 71 ls _ dX1_tellPortion_71 rfl rfl
    replace hf := ie hc9 hf
    refine lv_tableOut (tgt := 72) hx hb dX1_tellPortion_19 (by have q0 := gt_ne hc3 (k := 0) rfl; have q1 := gt_ne hc5 (k := 1) rfl; have q2 := gt_ne hc7 (k := 2) rfl; have q3 := gt_ne hc9 (k := 3) rfl; omega) (by decide) ?_
    refine lv_aload_n hx hb dX1_tellPortion_72 rfl (lv_at hl 1 rfl) ?_
    refine lv_iload hx hb dX1_tellPortion_73 (lv_at hl 0 rfl) ?_
    obtain ⟨q11, hq11, hf⟩ := ob hf
    refine cl_RV (As := [.int q2]) (rest := []) hF hP hD (c_X1_flowOfMark gh a q2 pA pM pn pt d0 w0 g0 k0 d1 w1 g1 k1 qA qM qn qt uA uM un ut sF sk sm st se fi gr br pu nr q11 hq11) (cwV 1 hts gX1_tellPortion_X1_flowOfMark rfl rfl rfl (by decide +kernel) ⟨(Nat.le_of_ble_eq_true rfl), (Nat.le_of_ble_eq_true rfl)⟩) [0, 1, 2, 3, 4, 5, 6, 7, 8, 9, 10, 11, 12, 13, 14, 15] rfl (by decide +kernel) (va_recv hK hP (ci := 1) (q0 := 0) rfl rfl) rfl rfl hl.1 (Nat.le_of_ble_eq_true rfl) dX1_tellPortion_75 ⟨Nat.zero_le _, Nat.zero_le _⟩ ?_
    obtain rfl := Option.some.inj hf
    exact ret 78 ls _ dX1_tellPortion_78 rfl rfl
  · replace hf := ie hc1 hf
    refine lv_ldc hx hb hown k1_ dX1_tellPortion_8 ?_
    obtain rfl := Option.some.inj hf
    exact ret 10 ls _ dX1_tellPortion_10 rfl rfl
end
