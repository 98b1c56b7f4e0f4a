section
variable {l : Launch} {D : va_G} {cI cC : ClassId}

abbrev rmX1_passSeconds : Room := { frames := 3, cells := 0, slots := 0, locals := 42 }
set_option maxHeartbeats 4000000 in
set_option maxRecDepth 100000 in
theorem c_X1_passSeconds (gh : Nat) (a : Nat → Nat) (x1 : Int32) (pA : Nat → Int32) (pM : Nat → Int32) (pn : Int32) (pt : Int32) (d0 : Int32) (w0 : Int32) (g0 : Int32) (k0 : Int32) (d1 : Int32) (w1 : Int32) (g1 : Int32) (k1 : Int32) (qA : Nat → Int32) (qM : Nat → Int32) (qn : Int32) (qt : Int32) (uA : Nat → Int32) (uM : Nat → Int32) (un : Int32) (ut : Int32) (sF : Nat → Int32) (sk : Int32) (sm : Int32) (st : Nat → Int32) (se : Int32) (fi : Int32) (gr : Int32) (br : Int32) (pu : Int32) (nr : Int32) (R : Int32 × Int32 × Int32) (hf : f_X1_passSeconds x1 w0 w1 se = some R) : WrV l yX1_passSeconds wsX1_passSeconds rmX1_passSeconds D cI cC (w_grinder cI cC gh a pA pM pn pt d0 w0 g0 k0 d1 w1 g1 k1 qA qM qn qt uA uM un ut sF sk sm st se fi gr br pu nr) (w_grinder cI cC gh a pA pM pn pt d0 R.1 g0 k0 d1 R.2.1 g1 k1 qA qM qn qt uA uM un ut sF sk sm st R.2.2 fi gr br pu nr) [.ref gh, .int x1] := by
  refine en_V (cc := cX1_passSeconds) (n := 3) (by decide) rfl (Nat.le_of_ble_eq_true rfl) ?_
  intro p e s m args below meth c Q AA ls hx hb hml hown hts hK hN hP hD hS hl ret
  have hown : s.vm.findClass RX1 = some m.cls := hown
  have hF : FX p m c cX1_passSeconds 3 s args wsX1_passSeconds RX1 D cI cC := ⟨⟨hx, hb, hml, hown, hts⟩, hK, hN⟩
  have hl : lv_has ls 3 [(0, .ref gh), (1, .int x1)] := hl
  have k1_ := hts (.fieldLink RX1 70 "DriftGrinders$Grinder" "second" "I") (List.mem_of_getElem? (i := 1) rfl)
  have k2_ := hts (.fieldLink RX1 21 "DriftGrinders$Grinder" "burr0" "LDriftGrinders$Burr;") (List.mem_of_getElem? (i := 2) rfl)
  have k3_ := hts (.fieldLink RX1 25 "DriftGrinders$Grinder" "burr1" "LDriftGrinders$Burr;") (List.mem_of_getElem? (i := 3) rfl)
  have n1_ : ∀ w ∈ wsX10, w ∈ wsX1_passSeconds := fun _ h => List.mem_cons_of_mem _ (List.mem_append_left _ (List.mem_append_right _ h))
  rw [f_X1_passSeconds] at hf
  obtain ⟨H, hH⟩ : ∃ z : Heap, z = s.heap := ⟨_, rfl⟩
  obtain ⟨locs, hL⟩ : ∃ z : List Loc, z = [] := ⟨_, rfl⟩
  replace hP := hH ▸ hP
  replace hS : va_S AA s.heap H locs := by rw [hH, hL]; exact hS
  suffices hgoal : W p l e rmX1_passSeconds s m args below meth c H locs 0 0 Q (F0 m 0 ls []) by rw [hH, hL] at hgoal; exact hgoal
  clear hH hL
  refine lv_aload_n hx hb dX1_passSeconds_0 rfl (lv_at hl 0 rfl) ?_
  refine va_get hx hb hts n1_ hown hK hP 0 rfl rfl 7 (Nat.le_of_ble_eq_true rfl) k1_ (fun _ h => h) rfl dX1_passSeconds_1 ?_
  refine lv_iload_n hx hb dX1_passSeconds_4 rfl (lv_at hl 1 rfl) ?_
  refine lv_iadd hx hb dX1_passSeconds_5 ?_
  refine lv_bipush (v := (10 : Int32)) hx hb dX1_passSeconds_6 (by decide) ?_
  refine lv_idiv hx hb dX1_passSeconds_8 (by decide) ?_
  refine lv_aload_n hx hb dX1_passSeconds_9 rfl (lv_at hl 0 rfl) ?_
  refine va_get hx hb hts n1_ hown hK hP 0 rfl rfl 7 (Nat.le_of_ble_eq_true rfl) k1_ (fun _ h => h) rfl dX1_passSeconds_10 ?_
  refine lv_bipush (v := (10 : Int32)) hx hb dX1_passSeconds_13 (by decide) ?_
  refine lv_idiv hx hb dX1_passSeconds_15 (by decide) ?_
  refine lv_isub hx hb dX1_passSeconds_16 ?_
  refine lv_topi (fun v1 ev1 => ?_)
  replace hf := lt_e ev1 hf
  refine lv_istore_n (lv' := [(2, .int v1), (0, .ref gh), (1, .int x1)]) hx hb dX1_passSeconds_17 rfl hl (by decide) rfl (fun ls hl => ?_)
  refine lv_aload_n hx hb dX1_passSeconds_18 rfl (lv_at hl 1 rfl) ?_
  refine va_get hx hb hts n1_ hown hK hP 0 rfl rfl 1 (Nat.le_of_ble_eq_true rfl) k2_ (fun _ h => h) rfl dX1_passSeconds_19 ?_
  refine lv_iload_n hx hb dX1_passSeconds_22 rfl (lv_at hl 0 rfl) ?_
  obtain ⟨q2, hq2, hf⟩ := ob hf
  refine cl_VV (W1 := (w_grinder cI cC gh a pA pM pn pt d0 q2 g0 k0 d1 w1 g1 k1 qA qM qn qt uA uM un ut sF sk sm st se fi gr br pu nr)) (As := [.int v1]) (rest := []) hF hP hD hS (c_X0_cool (a 5) v1 d0 w0 g0 k0 q2 hq2) (cwV 1 hts gX1_passSeconds_X0_cool rfl rfl rfl (by decide +kernel) ⟨(Nat.le_of_ble_eq_true rfl), (Nat.le_of_ble_eq_true rfl)⟩) [5] rfl (by decide +kernel) (va_recv hK hP (ci := 0) (q0 := 5) rfl rfl) rfl rfl hl.1 (Nat.le_of_ble_eq_true rfl) dX1_passSeconds_23 ⟨Nat.zero_le _, Nat.zero_le _⟩ (hA2 [(a 5)] rfl rfl) [0, 1, 2, 3, 4, 6, 7, 8, 9, 10, 11, 12, 13, 14, 15] rfl [(gh, .inr (1, [.ref (a 1), .ref (a 5), .ref (a 6), .ref (a 7), .ref (a 10), .ref (a 13), .ref (a 15), .int se, .int fi, .int gr, .int br, .int pu, .int nr])), ((a 1), .inr (3, [.ref (a 2)])), ((a 2), .inr (5, [.ref (a 3), .ref (a 4), .int pn, .int pt])), ((a 3), .inl (cI, 6, .inl pA)), ((a 4), .inl (cI, 6, .inl pM)), ((a 6), .inr (0, [.int d1, .int w1, .int g1, .int k1])), ((a 7), .inr (5, [.ref (a 8), .ref (a 9), .int qn, .int qt])), ((a 8), .inl (cI, 106, .inl qA)), ((a 9), .inl (cI, 106, .inl qM)), ((a 10), .inr (5, [.ref (a 11), .ref (a 12), .int un, .int ut])), ((a 11), .inl (cI, 400, .inl uA)), ((a 12), .inl (cI, 400, .inl uM)), ((a 13), .inr (6, [.ref (a 14), .int sk, .int sm])), ((a 14), .inl (cI, 96, .inl sF)), ((a 15), .inl (cI, 6, .inl st))] rfl rfl (nW := 16) rfl (by decide +kernel) (fun H locs hP hD hS => ?_)
  refine lv_aload_n hx hb dX1_passSeconds_26 rfl (lv_at hl 1 rfl) ?_
  refine va_get hx hb hts n1_ hown hK hP 0 rfl rfl 2 (Nat.le_of_ble_eq_true rfl) k3_ (fun _ h => h) rfl dX1_passSeconds_27 ?_
  refine lv_iload_n hx hb dX1_passSeconds_30 rfl (lv_at hl 0 rfl) ?_
  obtain ⟨q3, hq3, hf⟩ := ob hf
  refine cl_VV (W1 := (w_grinder cI cC gh a pA pM pn pt d0 q2 g0 k0 d1 q3 g1 k1 qA qM qn qt uA uM un ut sF sk sm st se fi gr br pu nr)) (As := [.int v1]) (rest := []) hF hP hD hS (c_X0_cool (a 6) v1 d1 w1 g1 k1 q3 hq3) (cwV 1 hts gX1_passSeconds_X0_cool rfl rfl rfl (by decide +kernel) ⟨(Nat.le_of_ble_eq_true rfl), (Nat.le_of_ble_eq_true rfl)⟩) [6] rfl (by decide +kernel) (va_recv hK hP (ci := 0) (q0 := 6) rfl rfl) rfl rfl hl.1 (Nat.le_of_ble_eq_true rfl) dX1_passSeconds_31 ⟨Nat.zero_le _, Nat.zero_le _⟩ (hA2 [(a 6)] rfl rfl) [0, 1, 2, 3, 4, 5, 7, 8, 9, 10, 11, 12, 13, 14, 15] rfl [(gh, .inr (1, [.ref (a 1), .ref (a 5), .ref (a 6), .ref (a 7), .ref (a 10), .ref (a 13), .ref (a 15), .int se, .int fi, .int gr, .int br, .int pu, .int nr])), ((a 1), .inr (3, [.ref (a 2)])), ((a 2), .inr (5, [.ref (a 3), .ref (a 4), .int pn, .int pt])), ((a 3), .inl (cI, 6, .inl pA)), ((a 4), .inl (cI, 6, .inl pM)), ((a 5), .inr (0, [.int d0, .int q2, .int g0, .int k0])), ((a 7), .inr (5, [.ref (a 8), .ref (a 9), .int qn, .int qt])), ((a 8), .inl (cI, 106, .inl qA)), ((a 9), .inl (cI, 106, .inl qM)), ((a 10), .inr (5, [.ref (a 11), .ref (a 12), .int un, .int ut])), ((a 11), .inl (cI, 400, .inl uA)), ((a 12), .inl (cI, 400, .inl uM)), ((a 13), .inr (6, [.ref (a 14), .int sk, .int sm])), ((a 14), .inl (cI, 96, .inl sF)), ((a 15), .inl (cI, 6, .inl st))] rfl rfl (nW := 16) rfl (by decide +kernel) (fun H locs hP hD hS => ?_)
  refine lv_aload_n hx hb dX1_passSeconds_34 rfl (lv_at hl 1 rfl) ?_
  refine lv_dup hx hb dX1_passSeconds_35 rfl ?_
  refine va_get hx hb hts n1_ hown hK hP 0 rfl rfl 7 (Nat.le_of_ble_eq_true rfl) k1_ (fun _ h => h) rfl dX1_passSeconds_36 ?_
  refine lv_iload_n hx hb dX1_passSeconds_39 rfl (lv_at hl 2 rfl) ?_
  refine lv_iadd hx hb dX1_passSeconds_40 ?_
  refine lv_topi (fun v4 ev4 => ?_)
  replace hf := lt_e ev4 hf
  refine va_put hx hb hts n1_ tyX1 tyX1_ok nmX1 hown hK hP hD hS 0 rfl rfl 7 (Nat.le_of_ble_eq_true rfl) k1_ (fun _ h => h) rfl (v := .int v4) (tyX1_ok 7 (Nat.le_of_ble_eq_true rfl)) rfl rfl (Nat.le_of_ble_eq_true rfl) dX1_passSeconds_41 (fun H locs hP hD hS => ?_)
  have hP : va_P D vwCl (w_grinder cI cC gh a pA pM pn pt d0 q2 g0 k0 d1 q3 g1 k1 qA qM qn qt uA uM un ut sF sk sm st v4 fi gr br pu nr) H := hP
  have hD : va_D AA (w_grinder cI cC gh a pA pM pn pt d0 q2 g0 k0 d1 q3 g1 k1 qA qM qn qt uA uM un ut sF sk sm st v4 fi gr br pu nr) := hD
  obtain rfl := Option.some.inj hf
  exact ret 44 ls H locs dX1_passSeconds_44 hP hS
abbrev rmX1_letPass : Room := { frames := 4, cells := 0, slots := 0, locals := 64 }
set_option maxHeartbeats 4000000 in
set_option maxRecDepth 100000 in
theorem c_X1_letPass (gh : Nat) (a : Nat → Nat) (x1 : Int32) (pA : Nat → Int32) (pM : Nat → Int32) (pn : Int32) (pt : Int32) (d0 : Int32) (w0 : Int32) (g0 : Int32) (k0 : Int32) (d1 : Int32) (w1 : Int32) (g1 : Int32) (k1 : Int32) (qA : Nat → Int32) (qM : Nat → Int32) (qn : Int32) (qt : Int32) (uA : Nat → Int32) (uM : Nat → Int32) (un : Int32) (ut : Int32) (sF : Nat → Int32) (sk : Int32) (sm : Int32) (st : Nat → Int32) (se : Int32) (fi : Int32) (gr : Int32) (br : Int32) (pu : Int32) (nr : Int32) (R : Int32 × Int32 × Int32 × Int32) (hf : f_X1_letPass x1 w0 w1 se = some R) : WrI l yX1_letPass wsX1_letPass rmX1_letPass D cI cC (w_grinder cI cC gh a pA pM pn pt d0 w0 g0 k0 d1 w1 g1 k1 qA qM qn qt uA uM un ut sF sk sm st se fi gr br pu nr) (w_grinder cI cC gh a pA pM pn pt d0 R.2.1 g0 k0 d1 R.2.2.1 g1 k1 qA qM qn qt uA uM un ut sF sk sm st R.2.2.2 fi gr br pu nr) [.ref gh, .int x1] R.1 := by
  refine en_W (cc := cX1_letPass) (n := 3) (by decide) rfl (Nat.le_of_ble_eq_true rfl) ?_
  intro p e s m args below meth c Q AA ls hx hb hml hown hts hK hN hP hD hS hl ret
  have hown : s.vm.findClass RX1 = some m.cls := hown
  have hF : FX p m c cX1_letPass 3 s args wsX1_letPass RX1 D cI cC := ⟨⟨hx, hb, hml, hown, hts⟩, hK, hN⟩
  have hl : lv_has ls 3 [(0, .ref gh), (1, .int x1)] := hl
  have k1_ := hts (.constant RX1 93 (-1000001)) (List.mem_of_getElem? (i := 1) rfl)
  have k2_ := hts (.fieldLink RX1 21 "DriftGrinders$Grinder" "burr0" "LDriftGrinders$Burr;") (List.mem_of_getElem? (i := 2) rfl)
  have k3_ := hts (.fieldLink RX1 25 "DriftGrinders$Grinder" "burr1" "LDriftGrinders$Burr;") (List.mem_of_getElem? (i := 3) rfl)
  have n0_ : ∀ w ∈ wsX00, w ∈ wsX1_letPass := fun _ h => List.mem_cons_of_mem _ (List.mem_append_right _ h)
  have n1_ : ∀ w ∈ wsX10, w ∈ wsX1_letPass := fun _ h => List.mem_cons_of_mem _ (List.mem_append_left _ (List.mem_append_right _ h))
  rw [f_X1_letPass] at hf
  obtain ⟨H, hH⟩ : ∃ z : Heap, z = s.heap := ⟨_, rfl⟩
  obtain ⟨locs, hL⟩ : ∃ z : List Loc, z = [] := ⟨_, rfl⟩
  replace hP := hH ▸ hP
  replace hS : va_S AA s.heap H locs := by rw [hH, hL]; exact hS
  suffices hgoal : W p l e rmX1_letPass s m args below meth c H locs 0 0 Q (F0 m 0 ls []) by rw [hH, hL] at hgoal; exact hgoal
  clear hH hL
  refine lv_iload_n hx hb dX1_letPass_0 rfl (lv_at hl 1 rfl) ?_
  refine lv_iconst (v := (1 : Int32)) hx hb dX1_letPass_1 (by decide) ?_
  refine lv_icmp_lt (tgt := 12) hx hb dX1_letPass_2 (by decide) (fun hc1 => ?_) (fun hc1 => ?_)
  · replace hf := it hc1 hf
    refine lv_ldc hx hb hown k1_ dX1_letPass_12 ?_
    obtain rfl := Option.some.inj hf
    exact ret 14 ls _ H locs dX1_letPass_14 rfl rfl hP hS
  · replace hf := ie hc1 hf
    refine lv_iload_n hx hb dX1_letPass_5 rfl (lv_at hl 1 rfl) ?_
    refine lv_sipush (v := (999 : Int32)) hx hb dX1_letPass_6 (by decide) ?_
    refine lv_icmp_le (tgt := 15) hx hb dX1_letPass_9 (by decide) (fun hc2 => ?_) (fun hc2 => ?_)
    · replace hf := it hc2 hf
      refine lv_aload_n hx hb dX1_letPass_15 rfl (lv_at hl 0 rfl) ?_
      refine va_get hx hb hts n1_ hown hK hP 0 rfl rfl 1 (Nat.le_of_ble_eq_true rfl) k2_ (fun _ h => h) rfl dX1_letPass_16 ?_
      refine va_getN hx hb hts n0_ hown hK hP 5 rfl rfl 1 (Nat.le_of_ble_eq_true rfl) (hN.get 5 rfl) (fun _ h => h) rfl dX1_letPass_19 ?_
      refine lv_aload_n hx hb dX1_letPass_22 rfl (lv_at hl 0 rfl) ?_
      refine va_get hx hb hts n1_ hown hK hP 0 rfl rfl 2 (Nat.le_of_ble_eq_true rfl) k3_ (fun _ h => h) rfl dX1_letPass_23 ?_
      refine va_getN hx hb hts n0_ hown hK hP 6 rfl rfl 1 (Nat.le_of_ble_eq_true rfl) (hN.get 5 rfl) (fun _ h => h) rfl dX1_letPass_26 ?_
      refine lv_iadd hx hb dX1_letPass_29 ?_
      refine lv_topi (fun v3 ev3 => ?_)
      replace hf := lt_e ev3 hf
      refine lv_istore_n (lv' := [(2, .int v3), (0, .ref gh), (1, .int x1)]) hx hb dX1_letPass_30 rfl hl (by decide) rfl (fun ls hl => ?_)
      refine lv_aload_n hx hb dX1_letPass_31 rfl (lv_at hl 1 rfl) ?_
      refine lv_iload_n hx hb dX1_letPass_32 rfl (lv_at hl 2 rfl) ?_
      obtain ⟨q4, hq4, hf⟩ := ob hf
      refine cl_VV (W1 := (w_grinder cI cC gh a pA pM pn pt d0 q4.1 g0 k0 d1 q4.2.1 g1 k1 qA qM qn qt uA uM un ut sF sk sm st q4.2.2 fi gr br pu nr)) (As := [.int x1]) (rest := []) hF hP hD hS (c_X1_passSeconds gh a x1 pA pM pn pt d0 w0 g0 k0 d1 w1 g1 k1 qA qM qn qt uA uM un ut sF sk sm st se fi gr br pu nr q4 hq4) (cwV 1 hts gX1_letPass_X1_passSeconds rfl rfl rfl (by decide +kernel) ⟨(Nat.le_of_ble_eq_true rfl), (Nat.le_of_ble_eq_true rfl)⟩) [0, 1, 2, 3, 4, 5, 6, 7, 8, 9, 10, 11, 12, 13, 14, 15] rfl (by decide +kernel) (va_recv hK hP (ci := 1) (q0 := 0) rfl rfl) rfl rfl hl.1 (Nat.le_of_ble_eq_true rfl) dX1_letPass_33 ⟨Nat.zero_le _, Nat.zero_le _⟩ (hA2 [gh, (a 1), (a 2), (a 3), (a 4), (a 5), (a 6), (a 7), (a 8), (a 9), (a 10), (a 11), (a 12), (a 13), (a 14), (a 15)] rfl rfl) [] rfl [] rfl rfl (nW := 16) rfl (by decide +kernel) (fun H locs hP hD hS => ?_)
      refine lv_iload_n hx hb dX1_letPass_36 rfl (lv_at hl 0 rfl) ?_
      refine lv_aload_n hx hb dX1_letPass_37 rfl (lv_at hl 1 rfl) ?_
      refine va_get hx hb hts n1_ hown hK hP 0 rfl rfl 1 (Nat.le_of_ble_eq_true rfl) k2_ (fun _ h => h) rfl dX1_letPass_38 ?_
      refine va_getN hx hb hts n0_ hown hK hP 5 rfl rfl 1 (Nat.le_of_ble_eq_true rfl) (hN.get 5 rfl) (fun _ h => h) rfl dX1_letPass_41 ?_
      refine lv_isub hx hb dX1_letPass_44 ?_
      refine lv_aload_n hx hb dX1_letPass_45 rfl (lv_at hl 1 rfl) ?_
      refine va_get hx hb hts n1_ hown hK hP 0 rfl rfl 2 (Nat.le_of_ble_eq_true rfl) k3_ (fun _ h => h) rfl dX1_letPass_46 ?_
      refine va_getN hx hb hts n0_ hown hK hP 6 rfl rfl 1 (Nat.le_of_ble_eq_true rfl) (hN.get 5 rfl) (fun _ h => h) rfl dX1_letPass_49 ?_
      refine lv_isub hx hb dX1_letPass_52 ?_
      obtain rfl := Option.some.inj hf
      exact ret 53 ls _ H locs dX1_letPass_53 rfl rfl hP hS
    · replace hf := ie hc2 hf
      refine lv_ldc hx hb hown k1_ dX1_letPass_12 ?_
      obtain rfl := Option.some.inj hf
      exact ret 14 ls _ H locs dX1_letPass_14 rfl rfl hP hS
end
