section
variable {l : Launch} {D : va_G} {cI cC : ClassId}

def w_grinder (cI cC : ClassId) (gh : Nat) (a : Nat → Nat) (pA : Nat → Int32) (pM : Nat → Int32) (pn : Int32) (pt : Int32) (d0 : Int32) (w0 : Int32) (g0 : Int32) (k0 : Int32) (d1 : Int32) (w1 : Int32) (g1 : Int32) (k1 : Int32) (qA : Nat → Int32) (qM : Nat → Int32) (qn : Int32) (qt : Int32) (uA : Nat → Int32) (uM : Nat → Int32) (un : Int32) (ut : Int32) (sF : Nat → Int32) (sk : Int32) (sm : Int32) (st : Nat → Int32) (se : Int32) (fi : Int32) (gr : Int32) (br : Int32) (pu : Int32) (nr : Int32) : va_W := [(gh, .inr (1, [.ref (a 1), .ref (a 5), .ref (a 6), .ref (a 7), .ref (a 10), .ref (a 13), .ref (a 15), .int se, .int fi, .int gr, .int br, .int pu, .int nr])), ((a 1), .inr (3, [.ref (a 2)])), ((a 2), .inr (5, [.ref (a 3), .ref (a 4), .int pn, .int pt])), ((a 3), .inl (cI, 6, .inl pA)), ((a 4), .inl (cI, 6, .inl pM)), ((a 5), .inr (0, [.int d0, .int w0, .int g0, .int k0])), ((a 6), .inr (0, [.int d1, .int w1, .int g1, .int k1])), ((a 7), .inr (5, [.ref (a 8), .ref (a 9), .int qn, .int qt])), ((a 8), .inl (cI, 106, .inl qA)), ((a 9), .inl (cI, 106, .inl qM)), ((a 10), .inr (5, [.ref (a 11), .ref (a 12), .int un, .int ut])), ((a 11), .inl (cI, 400, .inl uA)), ((a 12), .inl (cI, 400, .inl uM)), ((a 13), .inr (6, [.ref (a 14), .int sk, .int sm])), ((a 14), .inl (cI, 96, .inl sF)), ((a 15), .inl (cI, 6, .inl st))]
def w_grinder2 (cI cC : ClassId) (gh : Nat) (a : Nat → Nat) (oh : Nat) (o : Nat → Nat) (pA : Nat → Int32) (pM : Nat → Int32) (pn : Int32) (pt : Int32) (d0 : Int32) (w0 : Int32) (g0 : Int32) (k0 : Int32) (d1 : Int32) (w1 : Int32) (g1 : Int32) (k1 : Int32) (qA : Nat → Int32) (qM : Nat → Int32) (qn : Int32) (qt : Int32) (uA : Nat → Int32) (uM : Nat → Int32) (un : Int32) (ut : Int32) (sF : Nat → Int32) (sk : Int32) (sm : Int32) (st : Nat → Int32) (se : Int32) (fi : Int32) (gr : Int32) (br : Int32) (pu : Int32) (nr : Int32) (opA : Nat → Int32) (opM : Nat → Int32) (opn : Int32) (opt : Int32) (od0 : Int32) (ow0 : Int32) (og0 : Int32) (ok0 : Int32) (od1 : Int32) (ow1 : Int32) (og1 : Int32) (ok1 : Int32) (oqA : Nat → Int32) (oqM : Nat → Int32) (oqn : Int32) (oqt : Int32) (ouA : Nat → Int32) (ouM : Nat → Int32) (oun : Int32) (out : Int32) (osF : Nat → Int32) (osk : Int32) (osm : Int32) (ost : Nat → Int32) (ose : Int32) (ofi : Int32) (ogr : Int32) (obr : Int32) (opu : Int32) (onr : Int32) : va_W := [(gh, .inr (1, [.ref (a 1), .ref (a 5), .ref (a 6), .ref (a 7), .ref (a 10), .ref (a 13), .ref (a 15), .int se, .int fi, .int gr, .int br, .int pu, .int nr])), ((a 1), .inr (3, [.ref (a 2)])), ((a 2), .inr (5, [.ref (a 3), .ref (a 4), .int pn, .int pt])), ((a 3), .inl (cI, 6, .inl pA)), ((a 4), .inl (cI, 6, .inl pM)), ((a 5), .inr (0, [.int d0, .int w0, .int g0, .int k0])), ((a 6), .inr (0, [.int d1, .int w1, .int g1, .int k1])), ((a 7), .inr (5, [.ref (a 8), .ref (a 9), .int qn, .int qt])), ((a 8), .inl (cI, 106, .inl qA)), ((a 9), .inl (cI, 106, .inl qM)), ((a 10), .inr (5, [.ref (a 11), .ref (a 12), .int un, .int ut])), ((a 11), .inl (cI, 400, .inl uA)), ((a 12), .inl (cI, 400, .inl uM)), ((a 13), .inr (6, [.ref (a 14), .int sk, .int sm])), ((a 14), .inl (cI, 96, .inl sF)), ((a 15), .inl (cI, 6, .inl st)), (oh, .inr (1, [.ref (o 1), .ref (o 5), .ref (o 6), .ref (o 7), .ref (o 10), .ref (o 13), .ref (o 15), .int ose, .int ofi, .int ogr, .int obr, .int opu, .int onr])), ((o 1), .inr (3, [.ref (o 2)])), ((o 2), .inr (5, [.ref (o 3), .ref (o 4), .int opn, .int opt])), ((o 3), .inl (cI, 6, .inl opA)), ((o 4), .inl (cI, 6, .inl opM)), ((o 5), .inr (0, [.int od0, .int ow0, .int og0, .int ok0])), ((o 6), .inr (0, [.int od1, .int ow1, .int og1, .int ok1])), ((o 7), .inr (5, [.ref (o 8), .ref (o 9), .int oqn, .int oqt])), ((o 8), .inl (cI, 106, .inl oqA)), ((o 9), .inl (cI, 106, .inl oqM)), ((o 10), .inr (5, [.ref (o 11), .ref (o 12), .int oun, .int out])), ((o 11), .inl (cI, 400, .inl ouA)), ((o 12), .inl (cI, 400, .inl ouM)), ((o 13), .inr (6, [.ref (o 14), .int osk, .int osm])), ((o 14), .inl (cI, 96, .inl osF)), ((o 15), .inl (cI, 6, .inl ost))]
def w_gr (cI cC : ClassId) (gh : Nat) (a : Nat → Nat) (g : Gr) : va_W := w_grinder cI cC gh a g.1 g.2.1 g.2.2.1 g.2.2.2.1 g.2.2.2.2.1 g.2.2.2.2.2.1 g.2.2.2.2.2.2.1 g.2.2.2.2.2.2.2.1 g.2.2.2.2.2.2.2.2.1 g.2.2.2.2.2.2.2.2.2.1 g.2.2.2.2.2.2.2.2.2.2.1 g.2.2.2.2.2.2.2.2.2.2.2.1 g.2.2.2.2.2.2.2.2.2.2.2.2.1 g.2.2.2.2.2.2.2.2.2.2.2.2.2.1 g.2.2.2.2.2.2.2.2.2.2.2.2.2.2.1 g.2.2.2.2.2.2.2.2.2.2.2.2.2.2.2.1 g.2.2.2.2.2.2.2.2.2.2.2.2.2.2.2.2.1 g.2.2.2.2.2.2.2.2.2.2.2.2.2.2.2.2.2.1 g.2.2.2.2.2.2.2.2.2.2.2.2.2.2.2.2.2.2.1 g.2.2.2.2.2.2.2.2.2.2.2.2.2.2.2.2.2.2.2.1 g.2.2.2.2.2.2.2.2.2.2.2.2.2.2.2.2.2.2.2.2.1 g.2.2.2.2.2.2.2.2.2.2.2.2.2.2.2.2.2.2.2.2.2.1 g.2.2.2.2.2.2.2.2.2.2.2.2.2.2.2.2.2.2.2.2.2.2.1 g.2.2.2.2.2.2.2.2.2.2.2.2.2.2.2.2.2.2.2.2.2.2.2.1 g.2.2.2.2.2.2.2.2.2.2.2.2.2.2.2.2.2.2.2.2.2.2.2.2.1 g.2.2.2.2.2.2.2.2.2.2.2.2.2.2.2.2.2.2.2.2.2.2.2.2.2.1 g.2.2.2.2.2.2.2.2.2.2.2.2.2.2.2.2.2.2.2.2.2.2.2.2.2.2.1 g.2.2.2.2.2.2.2.2.2.2.2.2.2.2.2.2.2.2.2.2.2.2.2.2.2.2.2.1 g.2.2.2.2.2.2.2.2.2.2.2.2.2.2.2.2.2.2.2.2.2.2.2.2.2.2.2.2.1 g.2.2.2.2.2.2.2.2.2.2.2.2.2.2.2.2.2.2.2.2.2.2.2.2.2.2.2.2.2
abbrev rmX1_burrNumbered : Room := { frames := 1, cells := 0, slots := 0, locals := 0 }
set_option maxHeartbeats 4000000 in
set_option maxRecDepth 100000 in
theorem c_X1_burrNumbered_0 (gh : Nat) (a : Nat → Nat) (x1 : Int32) (pA : Nat → Int32) (pM : Nat → Int32) (pn : Int32) (pt : Int32) (d0 : Int32) (w0 : Int32) (g0 : Int32) (k0 : Int32) (d1 : Int32) (w1 : Int32) (g1 : Int32) (k1 : Int32) (qA : Nat → Int32) (qM : Nat → Int32) (qn : Int32) (qt : Int32) (uA : Nat → Int32) (uM : Nat → Int32) (un : Int32) (ut : Int32) (sF : Nat → Int32) (sk : Int32) (sm : Int32) (st : Nat → Int32) (se : Int32) (fi : Int32) (gr : Int32) (br : Int32) (pu : Int32) (nr : Int32) (hc : x1 = 0) : RdA l yX1_burrNumbered wsX1_burrNumbered rmX1_burrNumbered D cI cC (w_grinder cI cC gh a pA pM pn pt d0 w0 g0 k0 d1 w1 g1 k1 qA qM qn qt uA uM un ut sF sk sm st se fi gr br pu nr) [.ref gh, .int x1] (a 5) := by
  refine en_A (C := "DriftGrinders$Burr") (cc := cX1_burrNumbered) (n := 2) rfl (by decide) rfl (Nat.le_of_ble_eq_true rfl) ?_
  intro p e s m args below meth c Q AA ls hx hb hml hown hts hK hN hP hD hl ret
  have hown : s.vm.findClass RX1 = some m.cls := hown
  have hl : lv_has ls 2 [(0, .ref gh), (1, .int x1)] := hl
  have k1_ := hts (.fieldLink RX1 21 "DriftGrinders$Grinder" "burr0" "LDriftGrinders$Burr;") (List.mem_of_getElem? (i := 1) rfl)
  have k2_ := hts (.fieldLink RX1 25 "DriftGrinders$Grinder" "burr1" "LDriftGrinders$Burr;") (List.mem_of_getElem? (i := 2) rfl)
  have n1_ : ∀ w ∈ wsX10, w ∈ wsX1_burrNumbered := fun _ h => List.mem_cons_of_mem _ (List.mem_append_right _ h)
  refine lv_iload_n hx hb dX1_burrNumbered_0 rfl (lv_at hl 1 rfl) ?_
  refine lv_if_ne (tgt := 11) hx hb dX1_burrNumbered_1 (by decide) (fun hc1 => ?_) (fun hc1 => ?_)
  · exact absurd hc hc1
  · refine lv_aload_n hx hb dX1_burrNumbered_4 rfl (lv_at hl 0 rfl) ?_
    refine va_get hx hb hts n1_ hown hK hP 0 rfl rfl 1 (Nat.le_of_ble_eq_true rfl) k1_ (fun _ h => h) rfl dX1_burrNumbered_5 ?_
    refine lv_goto (tgt := 15) hx hb dX1_burrNumbered_8 (by decide) ?_
    exact ret 15 ls _ dX1_burrNumbered_15 rfl
set_option maxHeartbeats 4000000 in
set_option maxRecDepth 100000 in
theorem c_X1_burrNumbered_1 (gh : Nat) (a : Nat → Nat) (x1 : Int32) (pA : Nat → Int32) (pM : Nat → Int32) (pn : Int32) (pt : Int32) (d0 : Int32) (w0 : Int32) (g0 : Int32) (k0 : Int32) (d1 : Int32) (w1 : Int32) (g1 : Int32) (k1 : Int32) (qA : Nat → Int32) (qM : Nat → Int32) (qn : Int32) (qt : Int32) (uA : Nat → Int32) (uM : Nat → Int32) (un : Int32) (ut : Int32) (sF : Nat → Int32) (sk : Int32) (sm : Int32) (st : Nat → Int32) (se : Int32) (fi : Int32) (gr : Int32) (br : Int32) (pu : Int32) (nr : Int32) (hc : ¬ x1 = 0) : RdA l yX1_burrNumbered wsX1_burrNumbered rmX1_burrNumbered D cI cC (w_grinder cI cC gh a pA pM pn pt d0 w0 g0 k0 d1 w1 g1 k1 qA qM qn qt uA uM un ut sF sk sm st se fi gr br pu nr) [.ref gh, .int x1] (a 6) := by
  refine en_A (C := "DriftGrinders$Burr") (cc := cX1_burrNumbered) (n := 2) rfl (by decide) rfl (Nat.le_of_ble_eq_true rfl) ?_
  intro p e s m args below meth c Q AA ls hx hb hml hown hts hK hN hP hD hl ret
  have hown : s.vm.findClass RX1 = some m.cls := hown
  have hl : lv_has ls 2 [(0, .ref gh), (1, .int x1)] := hl
  have k1_ := hts (.fieldLink RX1 21 "DriftGrinders$Grinder" "burr0" "LDriftGrinders$Burr;") (List.mem_of_getElem? (i := 1) rfl)
  have k2_ := hts (.fieldLink RX1 25 "DriftGrinders$Grinder" "burr1" "LDriftGrinders$Burr;") (List.mem_of_getElem? (i := 2) rfl)
  have n1_ : ∀ w ∈ wsX10, w ∈ wsX1_burrNumbered := fun _ h => List.mem_cons_of_mem _ (List.mem_append_right _ h)
  refine lv_iload_n hx hb dX1_burrNumbered_0 rfl (lv_at hl 1 rfl) ?_
  refine lv_if_ne (tgt := 11) hx hb dX1_burrNumbered_1 (by decide) (fun hc1 => ?_) (fun hc1 => ?_)
  · refine lv_aload_n hx hb dX1_burrNumbered_11 rfl (lv_at hl 0 rfl) ?_
    refine va_get hx hb hts n1_ hown hK hP 0 rfl rfl 2 (Nat.le_of_ble_eq_true rfl) k2_ (fun _ h => h) rfl dX1_burrNumbered_12 ?_
    exact ret 15 ls _ dX1_burrNumbered_15 rfl
  · exact absurd hc1 hc
abbrev rmX1_hardnessOf : Room := { frames := 1, cells := 0, slots := 0, locals := 0 }
set_option maxHeartbeats 4000000 in
set_option maxRecDepth 100000 in
theorem c_X1_hardnessOf (gh : Nat) (a : Nat → Nat) (x1 : Int32) (pA : Nat → Int32) (pM : Nat → Int32) (pn : Int32) (pt : Int32) (d0 : Int32) (w0 : Int32) (g0 : Int32) (k0 : Int32) (d1 : Int32) (w1 : Int32) (g1 : Int32) (k1 : Int32) (qA : Nat → Int32) (qM : Nat → Int32) (qn : Int32) (qt : Int32) (uA : Nat → Int32) (uM : Nat → Int32) (un : Int32) (ut : Int32) (sF : Nat → Int32) (sk : Int32) (sm : Int32) (st : Nat → Int32) (se : Int32) (fi : Int32) (gr : Int32) (br : Int32) (pu : Int32) (nr : Int32) (R : Int32) (hf : f_X1_hardnessOf x1 st = some R) : RdI l yX1_hardnessOf wsX1_hardnessOf rmX1_hardnessOf D cI cC (w_grinder cI cC gh a pA pM pn pt d0 w0 g0 k0 d1 w1 g1 k1 qA qM qn qt uA uM un ut sF sk sm st se fi gr br pu nr) [.ref gh, .int x1] R := by
  refine en_R (cc := cX1_hardnessOf) (n := 2) (by decide) rfl (Nat.le_of_ble_eq_true rfl) ?_
  intro p e s m args below meth c Q AA ls hx hb hml hown hts hK hN hP hD hl ret
  have hown : s.vm.findClass RX1 = some m.cls := hown
  have hF : FX p m c cX1_hardnessOf 2 s args wsX1_hardnessOf RX1 D cI cC := ⟨⟨hx, hb, hml, hown, hts⟩, hK, hN⟩
  have hl : lv_has ls 2 [(0, .ref gh), (1, .int x1)] := hl
  have k1_ := hts (.fieldLink RX1 47 "DriftGrinders$Grinder" "settings" "[I") (List.mem_of_getElem? (i := 1) rfl)
  have n1_ : ∀ w ∈ wsX10, w ∈ wsX1_hardnessOf := fun _ h => List.mem_cons_of_mem _ (List.mem_append_right _ h)
  rw [f_X1_hardnessOf] at hf
  refine lv_iload_n hx hb dX1_hardnessOf_0 rfl (lv_at hl 1 rfl) ?_
  refine lv_if_ne (tgt := 13) hx hb dX1_hardnessOf_1 (by decide) (fun hc1 => ?_) (fun hc1 => ?_)
  · replace hf := ie hc1 hf
    refine lv_aload_n hx hb dX1_hardnessOf_13 rfl (lv_at hl 0 rfl) ?_
    refine va_get hx hb hts n1_ hown hK hP 0 rfl rfl 6 (Nat.le_of_ble_eq_true rfl) k1_ (fun _ h => h) rfl dX1_hardnessOf_14 ?_
    refine lv_iconst (v := (4 : Int32)) hx hb dX1_hardnessOf_17 (by decide) ?_
    refine va_iald hx hb hK hP 15 0 rfl rfl (show ¬ ((4 : Int32) < 0 ∨ 6 ≤ (4 : Int32).toNatClampNeg) by decide) dX1_hardnessOf_18 ?_
    obtain rfl := Option.some.inj hf
    exact ret 19 ls _ dX1_hardnessOf_19 rfl rfl
  · replace hf := it hc1 hf
    refine lv_aload_n hx hb dX1_hardnessOf_4 rfl (lv_at hl 0 rfl) ?_
    refine va_get hx hb hts n1_ hown hK hP 0 rfl rfl 6 (Nat.le_of_ble_eq_true rfl) k1_ (fun _ h => h) rfl dX1_hardnessOf_5 ?_
    refine lv_iconst (v := (3 : Int32)) hx hb dX1_hardnessOf_8 (by decide) ?_
    refine va_iald hx hb hK hP 15 0 rfl rfl (show ¬ ((3 : Int32) < 0 ∨ 6 ≤ (3 : Int32).toNatClampNeg) by decide) dX1_hardnessOf_9 ?_
    refine lv_goto (tgt := 19) hx hb dX1_hardnessOf_10 (by decide) ?_
    obtain rfl := Option.some.inj hf
    exact ret 19 ls _ dX1_hardnessOf_19 rfl rfl
abbrev rmX1_flowOfMark : Room := { frames := 2, cells := 0, slots := 0, locals := 21 }
set_option maxHeartbeats 4000000 in
set_option maxRecDepth 100000 in
theorem c_X1_flowOfMark (gh : Nat) (a : Nat → Nat) (x1 : Int32) (pA : Nat → Int32) (pM : Nat → Int32) (pn : Int32) (pt : Int32) (d0 : Int32) (w0 : Int32) (g0 : Int32) (k0 : Int32) (d1 : Int32) (w1 : Int32) (g1 : Int32) (k1 : Int32) (qA : Nat → Int32) (qM : Nat → Int32) (qn : Int32) (qt : Int32) (uA : Nat → Int32) (uM : Nat → Int32) (un : Int32) (ut : Int32) (sF : Nat → Int32) (sk : Int32) (sm : Int32) (st : Nat → Int32) (se : Int32) (fi : Int32) (gr : Int32) (br : Int32) (pu : Int32) (nr : Int32) (R : Int32) (hf : f_X1_flowOfMark x1 st = some R) : RdI l yX1_flowOfMark wsX1_flowOfMark rmX1_flowOfMark D cI cC (w_grinder cI cC gh a pA pM pn pt d0 w0 g0 k0 d1 w1 g1 k1 qA qM qn qt uA uM un ut sF sk sm st se fi gr br pu nr) [.ref gh, .int x1] R := by
  refine en_R (cc := cX1_flowOfMark) (n := 2) (by decide) rfl (Nat.le_of_ble_eq_true rfl) ?_
  intro p e s m args below meth c Q AA ls hx hb hml hown hts hK hN hP hD hl ret
  have hown : s.vm.findClass RX1 = some m.cls := hown
  have hF : FX p m c cX1_flowOfMark 2 s args wsX1_flowOfMark RX1 D cI cC := ⟨⟨hx, hb, hml, hown, hts⟩, hK, hN⟩
  have hl : lv_has ls 2 [(0, .ref gh), (1, .int x1)] := hl
  have k10_ := hts (.static yX7_gapOfMark) (List.mem_of_getElem? (i := 10) rfl)
  have k12_ := hts (.static yX7_flowOf) (List.mem_of_getElem? (i := 12) rfl)
  have k1_ := hts (.static yX7_kindOfMark) (List.mem_of_getElem? (i := 1) rfl)
  have k2_ := hts (.initialized RX7) (List.mem_of_getElem? (i := 2) rfl)
  rw [f_X1_flowOfMark] at hf
  refine lv_aload_n hx hb dX1_flowOfMark_0 rfl (lv_at hl 0 rfl) ?_
  refine lv_iload_n hx hb dX1_flowOfMark_1 rfl (lv_at hl 1 rfl) ?_
  obtain ⟨q1, hq1, hf⟩ := ob hf
  refine cl_RN (As := [.int x1]) (rest := [.ref gh]) hF hP hD (c_X7_kindOfMark x1 q1 hq1) ⟨va_cnB 1 hts gX1_flowOfMark_X7_kindOfMark_n182 rfl rfl rfl (hN.nw 24 rfl) k2_ (by decide +kernel) ⟨(Nat.le_of_ble_eq_true rfl), (Nat.le_of_ble_eq_true rfl)⟩, k1_, trivial⟩ [] rfl (by decide +kernel) rfl rfl hl.1 (Nat.le_of_ble_eq_true rfl) dX1_flowOfMark_2 ⟨Nat.zero_le _, Nat.zero_le _⟩ ?_
  obtain ⟨q2, hq2, hf⟩ := ob hf
  refine cl_RV (As := [.int q1]) (rest := []) hF hP hD (c_X1_hardnessOf gh a q1 pA pM pn pt d0 w0 g0 k0 d1 w1 g1 k1 qA qM qn qt uA uM un ut sF sk sm st se fi gr br pu nr q2 hq2) (cwV 1 hts gX1_flowOfMark_X1_hardnessOf rfl rfl rfl (by decide +kernel) ⟨(Nat.le_of_ble_eq_true rfl), (Nat.le_of_ble_eq_true rfl)⟩) [0, 1, 2, 3, 4, 5, 6, 7, 8, 9, 10, 11, 12, 13, 14, 15] rfl (by decide +kernel) (va_recv hK hP (ci := 1) (q0 := 0) rfl rfl) rfl rfl hl.1 (Nat.le_of_ble_eq_true rfl) dX1_flowOfMark_5 ⟨Nat.zero_le _, Nat.zero_le _⟩ ?_
  refine lv_iload_n hx hb dX1_flowOfMark_8 rfl (lv_at hl 1 rfl) ?_
  obtain ⟨q3, hq3, hf⟩ := ob hf
  refine cl_RN (As := [.int x1]) (rest := [.int q2]) hF hP hD (c_X7_gapOfMark x1 q3 hq3) ⟨va_cnB 1 hts gX1_flowOfMark_X7_gapOfMark_n188 rfl rfl rfl (hN.nw 26 rfl) k2_ (by decide +kernel) ⟨(Nat.le_of_ble_eq_true rfl), (Nat.le_of_ble_eq_true rfl)⟩, k10_, trivial⟩ [] rfl (by decide +kernel) rfl rfl hl.1 (Nat.le_of_ble_eq_true rfl) dX1_flowOfMark_9 ⟨Nat.zero_le _, Nat.zero_le _⟩ ?_
  obtain ⟨q4, hq4, hf⟩ := ob hf
  refine cl_RN (As := [.int q2, .int q3]) (rest := []) hF hP hD (c_X7_flowOf q2 q3 q4 hq4) ⟨va_cnB 2 hts gX1_flowOfMark_X7_flowOf_n191 rfl rfl rfl (hN.nw 27 rfl) k2_ (by decide +kernel) ⟨(Nat.le_of_ble_eq_true rfl), (Nat.le_of_ble_eq_true rfl)⟩, k12_, trivial⟩ [] rfl (by decide +kernel) rfl rfl hl.1 (Nat.le_of_ble_eq_true rfl) dX1_flowOfMark_12 ⟨Nat.zero_le _, Nat.zero_le _⟩ ?_
  obtain rfl := Option.some.inj hf
  exact ret 15 ls _ dX1_flowOfMark_15 rfl rfl
abbrev rmX1_timeOfBasket : Room := { frames := 3, cells := 0, slots := 0, locals := 42 }
set_option maxHeartbeats 4000000 in
set_option maxRecDepth 100000 in
theorem c_X1_timeOfBasket (gh : Nat) (a : Nat → Nat) (pA : Nat → Int32) (pM : Nat → Int32) (pn : Int32) (pt : Int32) (d0 : Int32) (w0 : Int32) (g0 : Int32) (k0 : Int32) (d1 : Int32) (w1 : Int32) (g1 : Int32) (k1 : Int32) (qA : Nat → Int32) (qM : Nat → Int32) (qn : Int32) (qt : Int32) (uA : Nat → Int32) (uM : Nat → Int32) (un : Int32) (ut : Int32) (sF : Nat → Int32) (sk : Int32) (sm : Int32) (st : Nat → Int32) (se : Int32) (fi : Int32) (gr : Int32) (br : Int32) (pu : Int32) (nr : Int32) (R : Int32) (hf : f_X1_timeOfBasket uA uM un ut st = some R) : RdI l yX1_timeOfBasket wsX1_timeOfBasket rmX1_timeOfBasket D cI cC (w_grinder cI cC gh a pA pM pn pt d0 w0 g0 k0 d1 w1 g1 k1 qA qM qn qt uA uM un ut sF sk sm st se fi gr br pu nr) [.ref gh] R := by
  refine en_R (cc := cX1_timeOfBasket) (n := 3) (by decide) rfl (Nat.le_of_ble_eq_true rfl) ?_
  intro p e s m args below meth c Q AA ls hx hb hml hown hts hK hN hP hD hl ret
  have hown : s.vm.findClass RX1 = some m.cls := hown
  have hF : FX p m c cX1_timeOfBasket 3 s args wsX1_timeOfBasket RX1 D cI cC := ⟨⟨hx, hb, hml, hown, hts⟩, hK, hN⟩
  have hl : lv_has ls 3 [(0, .ref gh)] := hl
  have k1_ := hts (.fieldLink RX1 37 "DriftGrinders$Grinder" "basket" "LDriftGrinders$Row;") (List.mem_of_getElem? (i := 1) rfl)
  have k2_ := hts (.constant RX1 107 (-1000002)) (List.mem_of_getElem? (i := 2) rfl)
  have n1_ : ∀ w ∈ wsX10, w ∈ wsX1_timeOfBasket := fun _ h => List.mem_cons_of_mem _ (List.mem_append_left _ (List.mem_append_right _ h))
  have n5_ : ∀ w ∈ wsX50, w ∈ wsX1_timeOfBasket := fun _ h => List.mem_cons_of_mem _ (List.mem_append_right _ h)
  have L18 : ∀ n18 : Nat, ∀ (y1_18 : Int32) (y2_18 : Int32), ∀ ls : Array Slot, lv_has ls 3 [(0, .ref gh), (1, .int y1_18), (2, .int y2_18)] → f_X1_timeOfBasket_L18 uA uM un ut st n18 y1_18 y2_18 = some R → W p l e rmX1_timeOfBasket s m args below meth c s.heap [] 0 0 Q (F0 m 18 ls []) := by
    intro n18
    induction n18 with
    | zero => intro y1_18 y2_18 ls hl hf; rw [f_X1_timeOfBasket_L18] at hf; cases hf
    | succ n18 IH18 =>
      intro y1_18 y2_18 ls hl hf
      rw [f_X1_timeOfBasket_L18] at hf
      refine lv_iload_n hx hb dX1_timeOfBasket_18 rfl (lv_at hl 2 rfl) ?_
      refine lv_aload_n hx hb dX1_timeOfBasket_19 rfl (lv_at hl 0 rfl) ?_
      refine va_get hx hb hts n1_ hown hK hP 0 rfl rfl 4 (Nat.le_of_ble_eq_true rfl) k1_ (fun _ h => h) rfl dX1_timeOfBasket_20 ?_
      refine va_getN hx hb hts n5_ hown hK hP 10 rfl rfl 2 (Nat.le_of_ble_eq_true rfl) (hN.get 1 rfl) (fun _ h => h) rfl dX1_timeOfBasket_23 ?_
      refine lv_icmp_ge (tgt := 59) hx hb dX1_timeOfBasket_26 (by decide) (fun hc2 => ?_) (fun hc2 => ?_)
      · replace hf := it hc2 hf
        refine lv_iload_n hx hb dX1_timeOfBasket_59 rfl (lv_at hl 1 rfl) ?_
        refine lv_aload_n hx hb dX1_timeOfBasket_60 rfl (lv_at hl 0 rfl) ?_
        refine va_get hx hb hts n1_ hown hK hP 0 rfl rfl 4 (Nat.le_of_ble_eq_true rfl) k1_ (fun _ h => h) rfl dX1_timeOfBasket_61 ?_
        refine va_getN hx hb hts n5_ hown hK hP 10 rfl rfl 3 (Nat.le_of_ble_eq_true rfl) (hN.get 3 rfl) (fun _ h => h) rfl dX1_timeOfBasket_64 ?_
        obtain ⟨hg3, hf⟩ := gd_s hf
        refine lv_idiv hx hb dX1_timeOfBasket_67 hg3 ?_
        obtain rfl := Option.some.inj hf
        exact ret 68 ls _ dX1_timeOfBasket_68 rfl rfl
      · replace hf := ie hc2 hf
        refine lv_iload_n hx hb dX1_timeOfBasket_29 rfl (lv_at hl 1 rfl) ?_
        refine lv_aload_n hx hb dX1_timeOfBasket_30 rfl (lv_at hl 0 rfl) ?_
        refine va_get hx hb hts n1_ hown hK hP 0 rfl rfl 4 (Nat.le_of_ble_eq_true rfl) k1_ (fun _ h => h) rfl dX1_timeOfBasket_31 ?_
        refine lv_iload_n hx hb dX1_timeOfBasket_34 rfl (lv_at hl 2 rfl) ?_
        obtain ⟨q4, hq4, hf⟩ := ob hf
        refine cl_RV (As := [.int y2_18]) (rest := [.int y1_18]) hF hP hD (c_X5_amountAt (a 10) (a 11) (a 12) 400 y2_18 uA uM un ut q4 hq4) (cwV 1 hts gX1_timeOfBasket_X5_amountAt rfl rfl rfl (by decide +kernel) ⟨(Nat.le_of_ble_eq_true rfl), (Nat.le_of_ble_eq_true rfl)⟩) [10, 11, 12] rfl (by decide +kernel) (va_recv hK hP (ci := 5) (q0 := 10) rfl rfl) rfl rfl hl.1 (Nat.le_of_ble_eq_true rfl) dX1_timeOfBasket_35 ⟨Nat.zero_le _, Nat.zero_le _⟩ ?_
        refine lv_aload_n hx hb dX1_timeOfBasket_38 rfl (lv_at hl 0 rfl) ?_
        refine lv_aload_n hx hb dX1_timeOfBasket_39 rfl (lv_at hl 0 rfl) ?_
        refine va_get hx hb hts n1_ hown hK hP 0 rfl rfl 4 (Nat.le_of_ble_eq_true rfl) k1_ (fun _ h => h) rfl dX1_timeOfBasket_40 ?_
        refine lv_iload_n hx hb dX1_timeOfBasket_43 rfl (lv_at hl 2 rfl) ?_
        obtain ⟨q5, hq5, hf⟩ := ob hf
        refine cl_RV (As := [.int y2_18]) (rest := [.ref gh, .int q4, .int y1_18]) hF hP hD (c_X5_markAt (a 10) (a 11) (a 12) 400 y2_18 uA uM un ut q5 hq5) (cwV 1 hts gX1_timeOfBasket_X5_markAt rfl rfl rfl (by decide +kernel) ⟨(Nat.le_of_ble_eq_true rfl), (Nat.le_of_ble_eq_true rfl)⟩) [10, 11, 12] rfl (by decide +kernel) (va_recv hK hP (ci := 5) (q0 := 10) rfl rfl) rfl rfl hl.1 (Nat.le_of_ble_eq_true rfl) dX1_timeOfBasket_44 ⟨Nat.zero_le _, Nat.zero_le _⟩ ?_
        obtain ⟨q6, hq6, hf⟩ := ob hf
        refine cl_RV (As := [.int q5]) (rest := [.int q4, .int y1_18]) hF hP hD (c_X1_flowOfMark gh a q5 pA pM pn pt d0 w0 g0 k0 d1 w1 g1 k1 qA qM qn qt uA uM un ut sF sk sm st se fi gr br pu nr q6 hq6) (cwV 1 hts gX1_timeOfBasket_X1_flowOfMark rfl rfl rfl (by decide +kernel) ⟨(Nat.le_of_ble_eq_true rfl), (Nat.le_of_ble_eq_true rfl)⟩) [0, 1, 2, 3, 4, 5, 6, 7, 8, 9, 10, 11, 12, 13, 14, 15] rfl (by decide +kernel) (va_recv hK hP (ci := 1) (q0 := 0) rfl rfl) rfl rfl hl.1 (Nat.le_of_ble_eq_true rfl) dX1_timeOfBasket_47 ⟨Nat.zero_le _, Nat.zero_le _⟩ ?_
        refine lv_imul hx hb dX1_timeOfBasket_50 ?_
        refine lv_iadd hx hb dX1_timeOfBasket_51 ?_
        refine lv_topi (fun v7 ev7 => ?_)
        replace hf := lt_e ev7 hf
        refine lv_istore_n (lv' := [(1, .int v7), (0, .ref gh), (2, .int y2_18)]) hx hb dX1_timeOfBasket_52 rfl hl (by decide) rfl (fun ls hl => ?_)
        obtain ⟨v8, ev8⟩ : ∃ z : Int32, z = y2_18 + (1 : Int32) := ⟨_, rfl⟩
        replace hf := lt_e ev8 hf
        refine lv_iinc (v := v8) (lv' := [(2, .int v8), (1, .int v7), (0, .ref gh)]) hx hb dX1_timeOfBasket_53 hl (k := 2) rfl (by rw [ev8]; rfl) (by decide) rfl (fun ls hl => ?_)
        refine lv_goto (tgt := 18) hx hb dX1_timeOfBasket_56 (by decide) ?_
        exact IH18 v7 v8 ls (lv_sub hl [2, 1, 0] rfl) hf
  rw [f_X1_timeOfBasket] at hf
  refine lv_aload_n hx hb dX1_timeOfBasket_0 rfl (lv_at hl 0 rfl) ?_
  refine va_get hx hb hts n1_ hown hK hP 0 rfl rfl 4 (Nat.le_of_ble_eq_true rfl) k1_ (fun _ h => h) rfl dX1_timeOfBasket_1 ?_
  refine va_getN hx hb hts n5_ hown hK hP 10 rfl rfl 3 (Nat.le_of_ble_eq_true rfl) (hN.get 3 rfl) (fun _ h => h) rfl dX1_timeOfBasket_4 ?_
  refine lv_iconst (v := (1 : Int32)) hx hb dX1_timeOfBasket_7 (by decide) ?_
  refine lv_icmp_ge (tgt := 14) hx hb dX1_timeOfBasket_8 (by decide) (fun hc1 => ?_) (fun hc1 => ?_)
  · replace hf := it hc1 hf
    refine lv_iconst (v := (0 : Int32)) hx hb dX1_timeOfBasket_14 (by decide) ?_
    refine lv_istore_n (lv' := [(1, .int (0 : Int32)), (0, .ref gh)]) hx hb dX1_timeOfBasket_15 rfl hl (by decide) rfl (fun ls hl => ?_)
    refine lv_iconst (v := (0 : Int32)) hx hb dX1_timeOfBasket_16 (by decide) ?_
    refine lv_istore_n (lv' := [(2, .int (0 : Int32)), (1, .int (0 : Int32)), (0, .ref gh)]) hx hb dX1_timeOfBasket_17 rfl hl (by decide) rfl (fun ls hl => ?_)
    exact L18 FU (0 : Int32) (0 : Int32) ls (lv_sub hl [2, 1, 0] rfl) hf
  · replace hf := ie hc1 hf
    refine lv_ldc hx hb hown k2_ dX1_timeOfBasket_11 ?_
    obtain rfl := Option.some.inj hf
    exact ret 13 ls _ dX1_timeOfBasket_13 rfl rfl
end
