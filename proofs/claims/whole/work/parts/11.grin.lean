section
variable {l : Launch} {D : va_G} {cI cC : ClassId}

def w_grinder (cI cC : ClassId) (gh : Nat) (a : Nat → Nat) (pA : Nat → Int32) (pM : Nat → Int32) (pn : Int32) (pt : Int32) (d0 : Int32) (w0 : Int32) (g0 : Int32) (k0 : Int32) (d1 : Int32) (w1 : Int32) (g1 : Int32) (k1 : Int32) (qA : Nat → Int32) (qM : Nat → Int32) (qn : Int32) (qt : Int32) (uA : Nat → Int32) (uM : Nat → Int32) (un : Int32) (ut : Int32) (sF : Nat → Int32) (sk : Int32) (sm : Int32) (st : Nat → Int32) (se : Int32) (fi : Int32) (gr : Int32) (br : Int32) (pu : Int32) (nr : Int32) : va_W := [(gh, .inr (1, [.ref (a 1), .ref (a 5), .ref (a 6), .ref (a 7), .ref (a 10), .ref (a 13), .ref (a 15), .int se, .int fi, .int gr, .int br, .int pu, .int nr])), ((a 1), .inr (3, [.ref (a 2)])), ((a 2), .inr (5, [.ref (a 3), .ref (a 4), .int pn, .int pt])), ((a 3), .inl (cI, 6, .inl pA)), ((a 4), .inl (cI, 6, .inl pM)), ((a 5), .inr (0, [.int d0, .int w0, .int g0, .int k0])), ((a 6), .inr (0, [.int d1, .int w1, .int g1, .int k1])), ((a 7), .inr (5, [.ref (a 8), .ref (a 9), .int qn, .int qt])), ((a 8), .inl (cI, 106, .inl qA)), ((a 9), .inl (cI, 106, .inl qM)), ((a 10), .inr (5, [.ref (a 11), .ref (a 12), .int un, .int ut])), ((a 11), .inl (cI, 400, .inl uA)), ((a 12), .inl (cI, 400, .inl uM)), ((a 13), .inr (6, [.ref (a 14), .int sk, .int sm])), ((a 14), .inl (cI, 96, .inl sF)), ((a 15), .inl (cI, 6, .inl st))]
def w_grinder2 (cI cC : ClassId) (gh : Nat) (a : Nat → Nat) (oh : Nat) (o : Nat → Nat) (pA : Nat → Int32) (pM : Nat → Int32) (pn : Int32) (pt : Int32) (d0 : Int32) (w0 : Int32) (g0 : Int32) (k0 : Int32) (d1 : Int32) (w1 : Int32) (g1 : Int32) (k1 : Int32) (qA : Nat → Int32) (qM : Nat → Int32) (qn : Int32) (qt : Int32) (uA : Nat → Int32) (uM : Nat → Int32) (un : Int32) (ut : Int32) (sF : Nat → Int32) (sk : Int32) (sm : Int32) (st : Nat → Int32) (se : Int32) (fi : Int32) (gr : Int32) (br : Int32) (pu : Int32) (nr : Int32) (opA : Nat → Int32) (opM : Nat → Int32) (opn : Int32) (opt : Int32) (od0 : Int32) (ow0 : Int32) (og0 : Int32) (ok0 : Int32) (od1 : Int32) (ow1 : Int32) (og1 : Int32) (ok1 : Int32) (oqA : Nat → Int32) (oqM : Nat → Int32) (oqn : Int32) (oqt : Int32) (ouA : Nat → Int32) (ouM : Nat → Int32) (oun : Int32) (out : Int32) (osF : Nat → Int32) (osk : Int32) (osm : Int32) (ost : Nat → Int32) (ose : Int32) (ofi : Int32) (ogr : Int32) (obr : Int32) (opu : Int32) (onr : Int32) : va_W := [(gh, .inr (1, [.ref (a 1), .ref (a 5), .ref (a 6), .ref (a 7), .ref (a 10), .ref (a 13), .ref (a 15), .int se, .int fi, .int gr, .int br, .int pu, .int nr])), ((a 1), .inr (3, [.ref (a 2)])), ((a 2), .inr (5, [.ref (a 3), .ref (a 4), .int pn, .int pt])), ((a 3), .inl (cI, 6, .inl pA)), ((a 4), .inl (cI, 6, .inl pM)), ((a 5), .inr (0, [.int d0, .int w0, .int g0, .int k0])), ((a 6), .inr (0, [.int d1, .int w1, .int g1, .int k1])), ((a 7), .inr (5, [.ref (a 8), .ref (a 9), .int qn, .int qt])), ((a 8), .inl (cI, 106, .inl qA)), ((a 9), .inl (cI, 106, .inl qM)), ((a 10), .inr (5, [.ref (a 11), .ref (a 12), .int un, .int ut])), ((a 11), .inl (cI, 400, .inl uA)), ((a 12), .inl (cI, 400, .inl uM)), ((a 13), .inr (6, [.ref (a 14), .int sk, .int sm])), ((a 14), .inl (cI, 96, .inl sF)), ((a 15), .inl (cI, 6, .inl st)), (oh, .inr (1, [.ref (o 1), .ref (o 5), .ref (o 6), .ref (o 7), .ref (o 10), .ref (o 13), .ref (o 15), .int ose, .int ofi, .int ogr, .int obr, .int opu, .int onr])), ((o 1), .inr (3, [.ref (o 2)])), ((o 2), .inr (5, [.ref (o 3), .ref (o 4), .int opn, .int opt])), ((o 3), .inl (cI, 6, .inl opA)), ((o 4), .inl (cI, 6, .inl opM)), ((o 5), .inr (0, [.int od0, .int ow0, .int og0, .int ok0])), ((o 6), .inr (0, [.int od1, .int ow1, .int og1, .int ok1])), ((o 7), .inr (5, [.ref (o 8), .ref (o 9), .int oqn, .int oqt])), ((o 8), .inl (cI, 106, .inl oqA)), ((o 9), .inl (cI, 106, .inl oqM)), ((o 10), .inr (5, [.ref (o 11), .ref (o 12), .int oun, .int out])), ((o 11), .inl (cI, 400, .inl ouA)), ((o 12), .inl (cI, 400, .inl ouM)), ((o 13), .inr (6, [.ref (o 14), .int osk, .int osm])), ((o 14), .inl (cI, 96, .inl osF)), ((o 15), .inl (cI, 6, .inl ost))]
abbrev Gr : Type := (Nat → Int32) × (Nat → Int32) × Int32 × Int32 × Int32 × Int32 × Int32 × Int32 × Int32 × Int32 × Int32 × Int32 × (Nat → Int32) × (Nat → Int32) × Int32 × Int32 × (Nat → Int32) × (Nat → Int32) × Int32 × Int32 × (Nat → Int32) × Int32 × Int32 × (Nat → Int32) × Int32 × Int32 × Int32 × Int32 × Int32 × Int32
def w_gr (cI cC : ClassId) (gh : Nat) (a : Nat → Nat) (g : Gr) : va_W := w_grinder cI cC gh a g.1 g.2.1 g.2.2.1 g.2.2.2.1 g.2.2.2.2.1 g.2.2.2.2.2.1 g.2.2.2.2.2.2.1 g.2.2.2.2.2.2.2.1 g.2.2.2.2.2.2.2.2.1 g.2.2.2.2.2.2.2.2.2.1 g.2.2.2.2.2.2.2.2.2.2.1 g.2.2.2.2.2.2.2.2.2.2.2.1 g.2.2.2.2.2.2.2.2.2.2.2.2.1 g.2.2.2.2.2.2.2.2.2.2.2.2.2.1 g.2.2.2.2.2.2.2.2.2.2.2.2.2.2.1 g.2.2.2.2.2.2.2.2.2.2.2.2.2.2.2.1 g.2.2.2.2.2.2.2.2.2.2.2.2.2.2.2.2.1 g.2.2.2.2.2.2.2.2.2.2.2.2.2.2.2.2.2.1 g.2.2.2.2.2.2.2.2.2.2.2.2.2.2.2.2.2.2.1 g.2.2.2.2.2.2.2.2.2.2.2.2.2.2.2.2.2.2.2.1 g.2.2.2.2.2.2.2.2.2.2.2.2.2.2.2.2.2.2.2.2.1 g.2.2.2.2.2.2.2.2.2.2.2.2.2.2.2.2.2.2.2.2.2.1 g.2.2.2.2.2.2.2.2.2.2.2.2.2.2.2.2.2.2.2.2.2.2.1 g.2.2.2.2.2.2.2.2.2.2.2.2.2.2.2.2.2.2.2.2.2.2.2.1 g.2.2.2.2.2.2.2.2.2.2.2.2.2.2.2.2.2.2.2.2.2.2.2.2.1 g.2.2.2.2.2.2.2.2.2.2.2.2.2.2.2.2.2.2.2.2.2.2.2.2.2.1 g.2.2.2.2.2.2.2.2.2.2.2.2.2.2.2.2.2.2.2.2.2.2.2.2.2.2.1 g.2.2.2.2.2.2.2.2.2.2.2.2.2.2.2.2.2.2.2.2.2.2.2.2.2.2.2.1 g.2.2.2.2.2.2.2.2.2.2.2.2.2.2.2.2.2.2.2.2.2.2.2.2.2.2.2.2.1 g.2.2.2.2.2.2.2.2.2.2.2.2.2.2.2.2.2.2.2.2.2.2.2.2.2.2.2.2.2
abbrev rmX1_burrNumbered : Room := { frames := 1, cells := 0, slots := 0, locals := 0 }
set_option maxHeartbeats 4000000 in
set_option maxRecDepth 100000 in
theorem c_X1_burrNumbered_0 (gh : Nat) (a : Nat → Nat) (x1 : Int32) (pA : Nat → Int32) (pM : Nat → Int32) (pn : Int32) (pt : Int32) (d0 : Int32) (w0 : Int32) (g0 : Int32) (k0 : Int32) (d1 : Int32) (w1 : Int32) (g1 : Int32) (k1 : Int32) (qA : Nat → Int32) (qM : Nat → Int32) (qn : Int32) (qt : Int32) (uA : Nat → Int32) (uM : Nat → Int32) (un : Int32) (ut : Int32) (sF : Nat → Int32) (sk : Int32) (sm : Int32) (st : Nat → Int32) (se : Int32) (fi : Int32) (gr : Int32) (br : Int32) (pu : Int32) (nr : Int32) (hc : x1 = 0) : RdA l yX1_burrNumbered wsX1_burrNumbered rmX1_burrNumbered D cI cC (w_grinder cI cC gh a pA pM pn pt d0 w0 g0 k0 d1 w1 g1 k1 qA qM qn qt uA uM un ut sF sk sm st se fi gr br pu nr) [.ref gh, .int x1] (a 5) := by
  refine en_A (C := "DriftGrinders$Burr") (cc := cX1_burrNumbered) (n := 2) rfl (by decide) rfl (Nat.le_of_ble_eq_true rfl) ?_
  intro p e s m args below meth c Q AA ls hx hb hml hown hts hK hN hP hD hl ret
  have hown : s.vm.findClass RX1 = some m.cls := hown
  have hl : lv_has ls 2 [(0, .ref gh), (1, .int x1)] := hl
  have k1_ := hts (.fieldLink RX1 21 "DriftGrinders$Grinder" "burr0" "LDriftGrinders$Burr;") (List.mem_of_getElem? (i := 1) rfl)
  have k2_ := hts (.fieldLink RX1 25 "DriftGrinders$Grinder" "burr1" "LDriftGrinders$Burr;") (List.mem_of_getElem? (i := 2) rfl)
  have n1_ : ∀ w ∈ wsX10, w ∈ wsX1_burrNumbered := fun _ h => List.mem_cons_of_mem _ (List.mem_append_right _ h)
  refine lv_iload_n hx hb dX1_burrNumbered_0 rfl (lv_at hl 1 rfl) ?_
  refine lv_if_ne (tgt := 11) hx hb dX1_burrNumbered_1 (by decide) (fun hc1 => ?_) (fun hc1 => ?_)
  · exact absurd hc hc1
  · refine lv_aload_n hx hb dX1_burrNumbered_4 rfl (lv_at hl 0 rfl) ?_
    refine va_get hx hb hts n1_ hown hK hP 0 rfl rfl 1 (Nat.le_of_ble_eq_true rfl) k1_ (fun _ h => h) rfl dX1_burrNumbered_5 ?_
    refine lv_goto (tgt := 15) hx hb dX1_burrNumbered_8 (by decide) ?_
    exact ret 15 ls _ dX1_burrNumbered_15 rfl
set_option maxHeartbeats 4000000 in
set_option maxRecDepth 100000 in
theorem c_X1_burrNumbered_1 (gh : Nat) (a : Nat → Nat) (x1 : Int32) (pA : Nat → Int32) (pM : Nat → Int32) (pn : Int32) (pt : Int32) (d0 : Int32) (w0 : Int32) (g0 : Int32) (k0 : Int32) (d1 : Int32) (w1 : Int32) (g1 : Int32) (k1 : Int32) (qA : Nat → Int32) (qM : Nat → Int32) (qn : Int32) (qt : Int32) (uA : Nat → Int32) (uM : Nat → Int32) (un : Int32) (ut : Int32) (sF : Nat → Int32) (sk : Int32) (sm : Int32) (st : Nat → Int32) (se : Int32) (fi : Int32) (gr : Int32) (br : Int32) (pu : Int32) (nr : Int32) (hc : ¬ x1 = 0) : RdA l yX1_burrNumbered wsX1_burrNumbered rmX1_burrNumbered D cI cC (w_grinder cI cC gh a pA pM pn pt d0 w0 g0 k0 d1 w1 g1 k1 qA qM qn qt uA uM un ut sF sk sm st se fi gr br pu nr) [.ref gh, .int x1] (a 6) := by
  refine en_A (C := "DriftGrinders$Burr") (cc := cX1_burrNumbered) (n := 2) rfl (by decide) rfl (Nat.le_of_ble_eq_true rfl) ?_
  intro p e s m args below meth c Q AA ls hx hb hml hown hts hK hN hP hD hl ret
  have hown : s.vm.findClass RX1 = some m.cls := hown
  have hl : lv_has ls 2 [(0, .ref gh), (1, .int x1)] := hl
  have k1_ := hts (.fieldLink RX1 21 "DriftGrinders$Grinder" "burr0" "LDriftGrinders$Burr;") (List.mem_of_getElem? (i := 1) rfl)
  have k2_ := hts (.fieldLink RX1 25 "DriftGrinders$Grinder" "burr1" "LDriftGrinders$Burr;") (List.mem_of_getElem? (i := 2) rfl)
  have n1_ : ∀ w ∈ wsX10, w ∈ wsX1_burrNumbered := fun _ h => List.mem_cons_of_mem _ (List.mem_append_right _ h)
  refine lv_iload_n hx hb dX1_burrNumbered_0 rfl (lv_at hl 1 rfl) ?_
  refine lv_if_ne (tgt := 11) hx hb dX1_burrNumbered_1 (by decide) (fun hc1 => ?_) (fun hc1 => ?_)
  · refine lv_aload_n hx hb dX1_burrNumbered_11 rfl (lv_at hl 0 rfl) ?_
    refine va_get hx hb hts n1_ hown hK hP 0 rfl rfl 2 (Nat.le_of_ble_eq_true rfl) k2_ (fun _ h => h) rfl dX1_burrNumbered_12 ?_
    exact ret 15 ls _ dX1_burrNumbered_15 rfl
  · exact absurd hc1 hc
noncomputable def f_X1_hardnessOf (x1 : Int32) (st : Nat → Int32) : Option (Int32) := (if x1 = 0 then some (st (3 : Int32).toNatClampNeg) else some (st (4 : Int32).toNatClampNeg))
abbrev rmX1_hardnessOf : Room := { frames := 1, cells := 0, slots := 0, locals := 0 }
set_option maxHeartbeats 4000000 in
set_option maxRecDepth 100000 in
theorem c_X1_hardnessOf (gh : Nat) (a : Nat → Nat) (x1 : Int32) (pA : Nat → Int32) (pM : Nat → Int32) (pn : Int32) (pt : Int32) (d0 : Int32) (w0 : Int32) (g0 : Int32) (k0 : Int32) (d1 : Int32) (w1 : Int32) (g1 : Int32) (k1 : Int32) (qA : Nat → Int32) (qM : Nat → Int32) (qn : Int32) (qt : Int32) (uA : Nat → Int32) (uM : Nat → Int32) (un : Int32) (ut : Int32) (sF : Nat → Int32) (sk : Int32) (sm : Int32) (st : Nat → Int32) (se : Int32) (fi : Int32) (gr : Int32) (br : Int32) (pu : Int32) (nr : Int32) (R : Int32) (hf : f_X1_hardnessOf x1 st = some R) : RdI l yX1_hardnessOf wsX1_hardnessOf rmX1_hardnessOf D cI cC (w_grinder cI cC gh a pA pM pn pt d0 w0 g0 k0 d1 w1 g1 k1 qA qM qn qt uA uM un ut sF sk sm st se fi gr br pu nr) [.ref gh, .int x1] R := by
  refine en_R (cc := cX1_hardnessOf) (n := 2) (by decide) rfl (Nat.le_of_ble_eq_true rfl) ?_
  intro p e s m args below meth c Q AA ls hx hb hml hown hts hK hN hP hD hl ret
  have hown : s.vm.findClass RX1 = some m.cls := hown
  have hF : FX p m c cX1_hardnessOf 2 s args wsX1_hardnessOf RX1 D cI cC := ⟨⟨hx, hb, hml, hown, hts⟩, hK, hN⟩
  have hl : lv_has ls 2 [(0, .ref gh), (1, .int x1)] := hl
  have k1_ := hts (.fieldLink RX1 47 "DriftGrinders$Grinder" "settings" "[I") (List.mem_of_getElem? (i := 1) rfl)
  have n1_ : ∀ w ∈ wsX10, w ∈ wsX1_hardnessOf := fun _ h => List.mem_cons_of_mem _ (List.mem_append_right _ h)
  rw [f_X1_hardnessOf] at hf
  refine lv_iload_n hx hb dX1_hardnessOf_0 rfl (lv_at hl 1 rfl) ?_
  refine lv_if_ne (tgt := 13) hx hb dX1_hardnessOf_1 (by decide) (fun hc1 => ?_) (fun hc1 => ?_)
  · replace hf := ie hc1 hf
    refine lv_aload_n hx hb dX1_hardnessOf_13 rfl (lv_at hl 0 rfl) ?_
    refine va_get hx hb hts n1_ hown hK hP 0 rfl rfl 6 (Nat.le_of_ble_eq_true rfl) k1_ (fun _ h => h) rfl dX1_hardnessOf_14 ?_
    refine lv_iconst (v := (4 : Int32)) hx hb dX1_hardnessOf_17 (by decide) ?_
    refine va_iald hx hb hK hP 15 0 rfl rfl (show ¬ ((4 : Int32) < 0 ∨ 6 ≤ (4 : Int32).toNatClampNeg) by decide) dX1_hardnessOf_18 ?_
    obtain rfl := Option.some.inj hf
    exact ret 19 ls _ dX1_hardnessOf_19 rfl rfl
  · replace hf := it hc1 hf
    refine lv_aload_n hx hb dX1_hardnessOf_4 rfl (lv_at hl 0 rfl) ?_
    refine va_get hx hb hts n1_ hown hK hP 0 rfl rfl 6 (Nat.le_of_ble_eq_true rfl) k1_ (fun _ h => h) rfl dX1_hardnessOf_5 ?_
    refine lv_iconst (v := (3 : Int32)) hx hb dX1_hardnessOf_8 (by decide) ?_
    refine va_iald hx hb hK hP 15 0 rfl rfl (show ¬ ((3 : Int32) < 0 ∨ 6 ≤ (3 : Int32).toNatClampNeg) by decide) dX1_hardnessOf_9 ?_
    refine lv_goto (tgt := 19) hx hb dX1_hardnessOf_10 (by decide) ?_
    obtain rfl := Option.some.inj hf
    exact ret 19 ls _ dX1_hardnessOf_19 rfl rfl
noncomputable def f_X1_flowOfMark (x1 : Int32) (st : Nat → Int32) : Option (Int32) := (f_X7_kindOfMark x1).bind fun q1 => (f_X1_hardnessOf q1 st).bind fun q2 => (f_X7_gapOfMark x1).bind fun q3 => (f_X7_flowOf q2 q3).bind fun q4 => some q4
abbrev rmX1_flowOfMark : Room := { frames := 2, cells := 0, slots := 0, locals := 21 }
set_option maxHeartbeats 4000000 in
set_option maxRecDepth 100000 in
theorem c_X1_flowOfMark (gh : Nat) (a : Nat → Nat) (x1 : Int32) (pA : Nat → Int32) (pM : Nat → Int32) (pn : Int32) (pt : Int32) (d0 : Int32) (w0 : Int32) (g0 : Int32) (k0 : Int32) (d1 : Int32) (w1 : Int32) (g1 : Int32) (k1 : Int32) (qA : Nat → Int32) (qM : Nat → Int32) (qn : Int32) (qt : Int32) (uA : Nat → Int32) (uM : Nat → Int32) (un : Int32) (ut : Int32) (sF : Nat → Int32) (sk : Int32) (sm : Int32) (st : Nat → Int32) (se : Int32) (fi : Int32) (gr : Int32) (br : Int32) (pu : Int32) (nr : Int32) (R : Int32) (hf : f_X1_flowOfMark x1 st = some R) : RdI l yX1_flowOfMark wsX1_flowOfMark rmX1_flowOfMark D cI cC (w_grinder cI cC gh a pA pM pn pt d0 w0 g0 k0 d1 w1 g1 k1 qA qM qn qt uA uM un ut sF sk sm st se fi gr br pu nr) [.ref gh, .int x1] R := by
  refine en_R (cc := cX1_flowOfMark) (n := 2) (by decide) rfl (Nat.le_of_ble_eq_true rfl) ?_
  intro p e s m args below meth c Q AA ls hx hb hml hown hts hK hN hP hD hl ret
  have hown : s.vm.findClass RX1 = some m.cls := hown
  have hF : FX p m c cX1_flowOfMark 2 s args wsX1_flowOfMark RX1 D cI cC := ⟨⟨hx, hb, hml, hown, hts⟩, hK, hN⟩
  have hl : lv_has ls 2 [(0, .ref gh), (1, .int x1)] := hl
  have k10_ := hts (.static yX7_gapOfMark) (List.mem_of_getElem? (i := 10) rfl)
  have k12_ := hts (.static yX7_flowOf) (List.mem_of_getElem? (i := 12) rfl)
  have k1_ := hts (.static yX7_kindOfMark) (List.mem_of_getElem? (i := 1) rfl)
  have k2_ := hts (.initialized RX7) (List.mem_of_getElem? (i := 2) rfl)
  rw [f_X1_flowOfMark] at hf
  refine lv_aload_n hx hb dX1_flowOfMark_0 rfl (lv_at hl 0 rfl) ?_
  refine lv_iload_n hx hb dX1_flowOfMark_1 rfl (lv_at hl 1 rfl) ?_
  obtain ⟨q1, hq1, hf⟩ := ob hf
  refine cl_RN (As := [.int x1]) (rest := [.ref gh]) hF hP hD (c_X7_kindOfMark x1 q1 hq1) ⟨va_cnB 1 hts gX1_flowOfMark_X7_kindOfMark_n182 rfl rfl rfl (hN.nw 28 rfl) k2_ (by decide +kernel) ⟨(Nat.le_of_ble_eq_true rfl), (Nat.le_of_ble_eq_true rfl)⟩, k1_, trivial⟩ [] rfl (by decide) rfl rfl hl.1 (Nat.le_of_ble_eq_true rfl) dX1_flowOfMark_2 ⟨Nat.zero_le _, Nat.zero_le _⟩ ?_
  obtain ⟨q2, hq2, hf⟩ := ob hf
  refine cl_RV (As := [.int q1]) (rest := []) hF hP hD (c_X1_hardnessOf gh a q1 pA pM pn pt d0 w0 g0 k0 d1 w1 g1 k1 qA qM qn qt uA uM un ut sF sk sm st se fi gr br pu nr q2 hq2) (cwV 1 hts gX1_flowOfMark_X1_hardnessOf rfl rfl rfl (by decide +kernel) ⟨(Nat.le_of_ble_eq_true rfl), (Nat.le_of_ble_eq_true rfl)⟩) [0, 1, 2, 3, 4, 5, 6, 7, 8, 9, 10, 11, 12, 13, 14, 15] rfl (by decide) (va_recv hK hP (ci := 1) (q0 := 0) rfl rfl) rfl rfl hl.1 (Nat.le_of_ble_eq_true rfl) dX1_flowOfMark_5 ⟨Nat.zero_le _, Nat.zero_le _⟩ ?_
  refine lv_iload_n hx hb dX1_flowOfMark_8 rfl (lv_at hl 1 rfl) ?_
  obtain ⟨q3, hq3, hf⟩ := ob hf
  refine cl_RN (As := [.int x1]) (rest := [.int q2]) hF hP hD (c_X7_gapOfMark x1 q3 hq3) ⟨va_cnB 1 hts gX1_flowOfMark_X7_gapOfMark_n188 rfl rfl rfl (hN.nw 29 rfl) k2_ (by decide +kernel) ⟨(Nat.le_of_ble_eq_true rfl), (Nat.le_of_ble_eq_true rfl)⟩, k10_, trivial⟩ [] rfl (by decide) rfl rfl hl.1 (Nat.le_of_ble_eq_true rfl) dX1_flowOfMark_9 ⟨Nat.zero_le _, Nat.zero_le _⟩ ?_
  obtain ⟨q4, hq4, hf⟩ := ob hf
  refine cl_RN (As := [.int q2, .int q3]) (rest := []) hF hP hD (c_X7_flowOf q2 q3 q4 hq4) ⟨va_cnB 2 hts gX1_flowOfMark_X7_flowOf_n191 rfl rfl rfl (hN.nw 30 rfl) k2_ (by decide +kernel) ⟨(Nat.le_of_ble_eq_true rfl), (Nat.le_of_ble_eq_true rfl)⟩, k12_, trivial⟩ [] rfl (by decide) rfl rfl hl.1 (Nat.le_of_ble_eq_true rfl) dX1_flowOfMark_12 ⟨Nat.zero_le _, Nat.zero_le _⟩ ?_
  obtain rfl := Option.some.inj hf
  exact ret 15 ls _ dX1_flowOfMark_15 rfl rfl
noncomputable def f_X1_timeOfBasket_L18 (uA : Nat → Int32) (uM : Nat → Int32) (un : Int32) (ut : Int32) (st : Nat → Int32) : Nat → Int32 → Int32 → Option (Int32)
  | 0, _, _ => none
  | fu + 1, y1_18, y2_18 => (if un ≤ y2_18 then gd (¬ ut = 0) (some (y1_18 / ut)) else (f_X5_amountAt 400 y2_18 uA un).bind fun q4 => (f_X5_markAt 400 y2_18 uM un).bind fun q5 => (f_X1_flowOfMark q5 st).bind fun q6 => lt ((y1_18 + (q4 * q6))) fun v7 => lt (y2_18 + (1 : Int32)) fun v8 => (f_X1_timeOfBasket_L18 uA uM un ut st fu) v7 v8)
noncomputable def f_X1_timeOfBasket (uA : Nat → Int32) (uM : Nat → Int32) (un : Int32) (ut : Int32) (st : Nat → Int32) : Option (Int32) := (if (1 : Int32) ≤ ut then f_X1_timeOfBasket_L18 uA uM un ut st FU (0 : Int32) (0 : Int32) else some (-1000002 : Int32))
abbrev rmX1_timeOfBasket : Room := { frames := 3, cells := 0, slots := 0, locals := 42 }
set_option maxHeartbeats 4000000 in
set_option maxRecDepth 100000 in
theorem c_X1_timeOfBasket (gh : Nat) (a : Nat → Nat) (pA : Nat → Int32) (pM : Nat → Int32) (pn : Int32) (pt : Int32) (d0 : Int32) (w0 : Int32) (g0 : Int32) (k0 : Int32) (d1 : Int32) (w1 : Int32) (g1 : Int32) (k1 : Int32) (qA : Nat → Int32) (qM : Nat → Int32) (qn : Int32) (qt : Int32) (uA : Nat → Int32) (uM : Nat → Int32) (un : Int32) (ut : Int32) (sF : Nat → Int32) (sk : Int32) (sm : Int32) (st : Nat → Int32) (se : Int32) (fi : Int32) (gr : Int32) (br : Int32) (pu : Int32) (nr : Int32) (R : Int32) (hf : f_X1_timeOfBasket uA uM un ut st = some R) : RdI l yX1_timeOfBasket wsX1_timeOfBasket rmX1_timeOfBasket D cI cC (w_grinder cI cC gh a pA pM pn pt d0 w0 g0 k0 d1 w1 g1 k1 qA qM qn qt uA uM un ut sF sk sm st se fi gr br pu nr) [.ref gh] R := by
  refine en_R (cc := cX1_timeOfBasket) (n := 3) (by decide) rfl (Nat.le_of_ble_eq_true rfl) ?_
  intro p e s m args below meth c Q AA ls hx hb hml hown hts hK hN hP hD hl ret
  have hown : s.vm.findClass RX1 = some m.cls := hown
  have hF : FX p m c cX1_timeOfBasket 3 s args wsX1_timeOfBasket RX1 D cI cC := ⟨⟨hx, hb, hml, hown, hts⟩, hK, hN⟩
  have hl : lv_has ls 3 [(0, .ref gh)] := hl
  have k1_ := hts (.fieldLink RX1 37 "DriftGrinders$Grinder" "basket" "LDriftGrinders$Row;") (List.mem_of_getElem? (i := 1) rfl)
  have k2_ := hts (.constant RX1 107 (-1000002)) (List.mem_of_getElem? (i := 2) rfl)
  have n1_ : ∀ w ∈ wsX10, w ∈ wsX1_timeOfBasket := fun _ h => List.mem_cons_of_mem _ (List.mem_append_left _ (List.mem_append_right _ h))
  have n5_ : ∀ w ∈ wsX50, w ∈ wsX1_timeOfBasket := fun _ h => List.mem_cons_of_mem _ (List.mem_append_right _ h)
  have L18 : ∀ n18 : Nat, ∀ (y1_18 : Int32) (y2_18 : Int32), ∀ ls : Array Slot, lv_has ls 3 [(0, .ref gh), (1, .int y1_18), (2, .int y2_18)] → f_X1_timeOfBasket_L18 uA uM un ut st n18 y1_18 y2_18 = some R → W p l e rmX1_timeOfBasket s m args below meth c s.heap [] 0 0 Q (F0 m 18 ls []) := by
    intro n18
    induction n18 with
    | zero => intro y1_18 y2_18 ls hl hf; rw [f_X1_timeOfBasket_L18] at hf; cases hf
    | succ n18 IH18 =>
      intro y1_18 y2_18 ls hl hf
      rw [f_X1_timeOfBasket_L18] at hf
      refine lv_iload_n hx hb dX1_timeOfBasket_18 rfl (lv_at hl 2 rfl) ?_
      refine lv_aload_n hx hb dX1_timeOfBasket_19 rfl (lv_at hl 0 rfl) ?_
      refine va_get hx hb hts n1_ hown hK hP 0 rfl rfl 4 (Nat.le_of_ble_eq_true rfl) k1_ (fun _ h => h) rfl dX1_timeOfBasket_20 ?_
      refine va_getN hx hb hts n5_ hown hK hP 10 rfl rfl 2 (Nat.le_of_ble_eq_true rfl) (hN.get 1 rfl) (fun _ h => h) rfl dX1_timeOfBasket_23 ?_
      refine lv_icmp_ge (tgt := 59) hx hb dX1_timeOfBasket_26 (by decide) (fun hc2 => ?_) (fun hc2 => ?_)
      · replace hf := it hc2 hf
        refine lv_iload_n hx hb dX1_timeOfBasket_59 rfl (lv_at hl 1 rfl) ?_
        refine lv_aload_n hx hb dX1_timeOfBasket_60 rfl (lv_at hl 0 rfl) ?_
        refine va_get hx hb hts n1_ hown hK hP 0 rfl rfl 4 (Nat.le_of_ble_eq_true rfl) k1_ (fun _ h => h) rfl dX1_timeOfBasket_61 ?_
        refine va_getN hx hb hts n5_ hown hK hP 10 rfl rfl 3 (Nat.le_of_ble_eq_true rfl) (hN.get 3 rfl) (fun _ h => h) rfl dX1_timeOfBasket_64 ?_
        obtain ⟨hg3, hf⟩ := gd_s hf
        refine lv_idiv hx hb dX1_timeOfBasket_67 hg3 ?_
        obtain rfl := Option.some.inj hf
        exact ret 68 ls _ dX1_timeOfBasket_68 rfl rfl
      · replace hf := ie hc2 hf
        refine lv_iload_n hx hb dX1_timeOfBasket_29 rfl (lv_at hl 1 rfl) ?_
        refine lv_aload_n hx hb dX1_timeOfBasket_30 rfl (lv_at hl 0 rfl) ?_
        refine va_get hx hb hts n1_ hown hK hP 0 rfl rfl 4 (Nat.le_of_ble_eq_true rfl) k1_ (fun _ h => h) rfl dX1_timeOfBasket_31 ?_
        refine lv_iload_n hx hb dX1_timeOfBasket_34 rfl (lv_at hl 2 rfl) ?_
        obtain ⟨q4, hq4, hf⟩ := ob hf
        refine cl_RV (As := [.int y2_18]) (rest := [.int y1_18]) hF hP hD (c_X5_amountAt (a 10) (a 11) (a 12) 400 y2_18 uA uM un ut q4 hq4) (cwV 1 hts gX1_timeOfBasket_X5_amountAt rfl rfl rfl (by decide +kernel) ⟨(Nat.le_of_ble_eq_true rfl), (Nat.le_of_ble_eq_true rfl)⟩) [10, 11, 12] rfl (by decide) (va_recv hK hP (ci := 5) (q0 := 10) rfl rfl) rfl rfl hl.1 (Nat.le_of_ble_eq_true rfl) dX1_timeOfBasket_35 ⟨Nat.zero_le _, Nat.zero_le _⟩ ?_
        refine lv_aload_n hx hb dX1_timeOfBasket_38 rfl (lv_at hl 0 rfl) ?_
        refine lv_aload_n hx hb dX1_timeOfBasket_39 rfl (lv_at hl 0 rfl) ?_
        refine va_get hx hb hts n1_ hown hK hP 0 rfl rfl 4 (Nat.le_of_ble_eq_true rfl) k1_ (fun _ h => h) rfl dX1_timeOfBasket_40 ?_
        refine lv_iload_n hx hb dX1_timeOfBasket_43 rfl (lv_at hl 2 rfl) ?_
        obtain ⟨q5, hq5, hf⟩ := ob hf
        refine cl_RV (As := [.int y2_18]) (rest := [.ref gh, .int q4, .int y1_18]) hF hP hD (c_X5_markAt (a 10) (a 11) (a 12) 400 y2_18 uA uM un ut q5 hq5) (cwV 1 hts gX1_timeOfBasket_X5_markAt rfl rfl rfl (by decide +kernel) ⟨(Nat.le_of_ble_eq_true rfl), (Nat.le_of_ble_eq_true rfl)⟩) [10, 11, 12] rfl (by decide) (va_recv hK hP (ci := 5) (q0 := 10) rfl rfl) rfl rfl hl.1 (Nat.le_of_ble_eq_true rfl) dX1_timeOfBasket_44 ⟨Nat.zero_le _, Nat.zero_le _⟩ ?_
        obtain ⟨q6, hq6, hf⟩ := ob hf
        refine cl_RV (As := [.int q5]) (rest := [.int q4, .int y1_18]) hF hP hD (c_X1_flowOfMark gh a q5 pA pM pn pt d0 w0 g0 k0 d1 w1 g1 k1 qA qM qn qt uA uM un ut sF sk sm st se fi gr br pu nr q6 hq6) (cwV 1 hts gX1_timeOfBasket_X1_flowOfMark rfl rfl rfl (by decide +kernel) ⟨(Nat.le_of_ble_eq_true rfl), (Nat.le_of_ble_eq_true rfl)⟩) [0, 1, 2, 3, 4, 5, 6, 7, 8, 9, 10, 11, 12, 13, 14, 15] rfl (by decide) (va_recv hK hP (ci := 1) (q0 := 0) rfl rfl) rfl rfl hl.1 (Nat.le_of_ble_eq_true rfl) dX1_timeOfBasket_47 ⟨Nat.zero_le _, Nat.zero_le _⟩ ?_
        refine lv_imul hx hb dX1_timeOfBasket_50 ?_
        refine lv_iadd hx hb dX1_timeOfBasket_51 ?_
        refine lv_topi (fun v7 ev7 => ?_)
        replace hf := lt_e ev7 hf
        refine lv_istore_n (lv' := [(1, .int v7), (0, .ref gh), (2, .int y2_18)]) hx hb dX1_timeOfBasket_52 rfl hl (by decide) rfl (fun ls hl => ?_)
        obtain ⟨v8, ev8⟩ : ∃ z : Int32, z = y2_18 + (1 : Int32) := ⟨_, rfl⟩
        replace hf := lt_e ev8 hf
        refine lv_iinc (v := v8) (lv' := [(2, .int v8), (1, .int v7), (0, .ref gh)]) hx hb dX1_timeOfBasket_53 hl (k := 2) rfl (by rw [ev8]; rfl) (by decide) rfl (fun ls hl => ?_)
        refine lv_goto (tgt := 18) hx hb dX1_timeOfBasket_56 (by decide) ?_
        exact IH18 v7 v8 ls (lv_sub hl [2, 1, 0] rfl) hf
  rw [f_X1_timeOfBasket] at hf
  refine lv_aload_n hx hb dX1_timeOfBasket_0 rfl (lv_at hl 0 rfl) ?_
  refine va_get hx hb hts n1_ hown hK hP 0 rfl rfl 4 (Nat.le_of_ble_eq_true rfl) k1_ (fun _ h => h) rfl dX1_timeOfBasket_1 ?_
  refine va_getN hx hb hts n5_ hown hK hP 10 rfl rfl 3 (Nat.le_of_ble_eq_true rfl) (hN.get 3 rfl) (fun _ h => h) rfl dX1_timeOfBasket_4 ?_
  refine lv_iconst (v := (1 : Int32)) hx hb dX1_timeOfBasket_7 (by decide) ?_
  refine lv_icmp_ge (tgt := 14) hx hb dX1_timeOfBasket_8 (by decide) (fun hc1 => ?_) (fun hc1 => ?_)
  · replace hf := it hc1 hf
    refine lv_iconst (v := (0 : Int32)) hx hb dX1_timeOfBasket_14 (by decide) ?_
    refine lv_istore_n (lv' := [(1, .int (0 : Int32)), (0, .ref gh)]) hx hb dX1_timeOfBasket_15 rfl hl (by decide) rfl (fun ls hl => ?_)
    refine lv_iconst (v := (0 : Int32)) hx hb dX1_timeOfBasket_16 (by decide) ?_
    refine lv_istore_n (lv' := [(2, .int (0 : Int32)), (1, .int (0 : Int32)), (0, .ref gh)]) hx hb dX1_timeOfBasket_17 rfl hl (by decide) rfl (fun ls hl => ?_)
    exact L18 FU (0 : Int32) (0 : Int32) ls (lv_sub hl [2, 1, 0] rfl) hf
  · replace hf := ie hc1 hf
    refine lv_ldc hx hb hown k2_ dX1_timeOfBasket_11 ?_
    obtain rfl := Option.some.inj hf
    exact ret 13 ls _ dX1_timeOfBasket_13 rfl rfl
noncomputable def f_X1_passSeconds (x1 : Int32) (w0 : Int32) (w1 : Int32) (se : Int32) : Option (Int32 × Int32 × Int32) := lt ((((se + x1) / (10 : Int32)) - (se / (10 : Int32)))) fun v1 => (f_X0_cool v1 w0).bind fun q2 => (f_X0_cool v1 w1).bind fun q3 => lt ((se + x1)) fun v4 => some (q2, q3, v4)
abbrev rmX1_passSeconds : Room := { frames := 3, cells := 0, slots := 0, locals := 42 }
set_option maxHeartbeats 4000000 in
set_option maxRecDepth 100000 in
theorem c_X1_passSeconds (gh : Nat) (a : Nat → Nat) (x1 : Int32) (pA : Nat → Int32) (pM : Nat → Int32) (pn : Int32) (pt : Int32) (d0 : Int32) (w0 : Int32) (g0 : Int32) (k0 : Int32) (d1 : Int32) (w1 : Int32) (g1 : Int32) (k1 : Int32) (qA : Nat → Int32) (qM : Nat → Int32) (qn : Int32) (qt : Int32) (uA : Nat → Int32) (uM : Nat → Int32) (un : Int32) (ut : Int32) (sF : Nat → Int32) (sk : Int32) (sm : Int32) (st : Nat → Int32) (se : Int32) (fi : Int32) (gr : Int32) (br : Int32) (pu : Int32) (nr : Int32) (R : Int32 × Int32 × Int32) (hf : f_X1_passSeconds x1 w0 w1 se = some R) : WrV l yX1_passSeconds wsX1_passSeconds rmX1_passSeconds D cI cC (w_grinder cI cC gh a pA pM pn pt d0 w0 g0 k0 d1 w1 g1 k1 qA qM qn qt uA uM un ut sF sk sm st se fi gr br pu nr) (w_grinder cI cC gh a pA pM pn pt d0 R.1 g0 k0 d1 R.2.1 g1 k1 qA qM qn qt uA uM un ut sF sk sm st R.2.2 fi gr br pu nr) [.ref gh, .int x1] := by
  refine en_V (cc := cX1_passSeconds) (n := 3) (by decide) rfl (Nat.le_of_ble_eq_true rfl) ?_
  intro p e s m args below meth c Q AA ls hx hb hml hown hts hK hN hP hD hS hl ret
  have hown : s.vm.findClass RX1 = some m.cls := hown
  have hF : FX p m c cX1_passSeconds 3 s args wsX1_passSeconds RX1 D cI cC := ⟨⟨hx, hb, hml, hown, hts⟩, hK, hN⟩
  have hl : lv_has ls 3 [(0, .ref gh), (1, .int x1)] := hl
  have k1_ := hts (.fieldLink RX1 70 "DriftGrinders$Grinder" "second" "I") (List.mem_of_getElem? (i := 1) rfl)
  have k2_ := hts (.fieldLink RX1 21 "DriftGrinders$Grinder" "burr0" "LDriftGrinders$Burr;") (List.mem_of_getElem? (i := 2) rfl)
  have k3_ := hts (.fieldLink RX1 25 "DriftGrinders$Grinder" "burr1" "LDriftGrinders$Burr;") (List.mem_of_getElem? (i := 3) rfl)
  have n1_ : ∀ w ∈ wsX10, w ∈ wsX1_passSeconds := fun _ h => List.mem_cons_of_mem _ (List.mem_append_left _ (List.mem_append_right _ h))
  rw [f_X1_passSeconds] at hf
  obtain ⟨H, hH⟩ : ∃ z : Heap, z = s.heap := ⟨_, rfl⟩
  obtain ⟨locs, hL⟩ : ∃ z : List Loc, z = [] := ⟨_, rfl⟩
  replace hP := hH ▸ hP
  replace hS : va_S AA s.heap H locs := by rw [hH, hL]; exact hS
  suffices hgoal : W p l e rmX1_passSeconds s m args below meth c H locs 0 0 Q (F0 m 0 ls []) by rw [hH, hL] at hgoal; exact hgoal
  clear hH hL
  refine lv_aload_n hx hb dX1_passSeconds_0 rfl (lv_at hl 0 rfl) ?_
  refine va_get hx hb hts n1_ hown hK hP 0 rfl rfl 7 (Nat.le_of_ble_eq_true rfl) k1_ (fun _ h => h) rfl dX1_passSeconds_1 ?_
  refine lv_iload_n hx hb dX1_passSeconds_4 rfl (lv_at hl 1 rfl) ?_
  refine lv_iadd hx hb dX1_passSeconds_5 ?_
  refine lv_bipush (v := (10 : Int32)) hx hb dX1_passSeconds_6 (by decide) ?_
  refine lv_idiv hx hb dX1_passSeconds_8 (by decide) ?_
  refine lv_aload_n hx hb dX1_passSeconds_9 rfl (lv_at hl 0 rfl) ?_
  refine va_get hx hb hts n1_ hown hK hP 0 rfl rfl 7 (Nat.le_of_ble_eq_true rfl) k1_ (fun _ h => h) rfl dX1_passSeconds_10 ?_
  refine lv_bipush (v := (10 : Int32)) hx hb dX1_passSeconds_13 (by decide) ?_
  refine lv_idiv hx hb dX1_passSeconds_15 (by decide) ?_
  refine lv_isub hx hb dX1_passSeconds_16 ?_
  refine lv_topi (fun v1 ev1 => ?_)
  replace hf := lt_e ev1 hf
  refine lv_istore_n (lv' := [(2, .int v1), (0, .ref gh), (1, .int x1)]) hx hb dX1_passSeconds_17 rfl hl (by decide) rfl (fun ls hl => ?_)
  refine lv_aload_n hx hb dX1_passSeconds_18 rfl (lv_at hl 1 rfl) ?_
  refine va_get hx hb hts n1_ hown hK hP 0 rfl rfl 1 (Nat.le_of_ble_eq_true rfl) k2_ (fun _ h => h) rfl dX1_passSeconds_19 ?_
  refine lv_iload_n hx hb dX1_passSeconds_22 rfl (lv_at hl 0 rfl) ?_
  obtain ⟨q2, hq2, hf⟩ := ob hf
  refine cl_VV (As := [.int v1]) (rest := []) hF hP hD hS (c_X0_cool (a 5) v1 d0 w0 g0 k0 q2 hq2) (cwV 1 hts gX1_passSeconds_X0_cool rfl rfl rfl (by decide +kernel) ⟨(Nat.le_of_ble_eq_true rfl), (Nat.le_of_ble_eq_true rfl)⟩) [5] rfl (by decide) (va_recv hK hP (ci := 0) (q0 := 5) rfl rfl) rfl rfl hl.1 (Nat.le_of_ble_eq_true rfl) dX1_passSeconds_23 ⟨Nat.zero_le _, Nat.zero_le _⟩ (hA2 [(a 5)] rfl rfl) (fun H locs hP hD hS => ?_)
  have hP : va_P D vwCl (w_grinder cI cC gh a pA pM pn pt d0 q2 g0 k0 d1 w1 g1 k1 qA qM qn qt uA uM un ut sF sk sm st se fi gr br pu nr) H := hP
  have hD : va_D AA (w_grinder cI cC gh a pA pM pn pt d0 q2 g0 k0 d1 w1 g1 k1 qA qM qn qt uA uM un ut sF sk sm st se fi gr br pu nr) := hD
  refine lv_aload_n hx hb dX1_passSeconds_26 rfl (lv_at hl 1 rfl) ?_
  refine va_get hx hb hts n1_ hown hK hP 0 rfl rfl 2 (Nat.le_of_ble_eq_true rfl) k3_ (fun _ h => h) rfl dX1_passSeconds_27 ?_
  refine lv_iload_n hx hb dX1_passSeconds_30 rfl (lv_at hl 0 rfl) ?_
  obtain ⟨q3, hq3, hf⟩ := ob hf
  refine cl_VV (As := [.int v1]) (rest := []) hF hP hD hS (c_X0_cool (a 6) v1 d1 w1 g1 k1 q3 hq3) (cwV 1 hts gX1_passSeconds_X0_cool rfl rfl rfl (by decide +kernel) ⟨(Nat.le_of_ble_eq_true rfl), (Nat.le_of_ble_eq_true rfl)⟩) [6] rfl (by decide) (va_recv hK hP (ci := 0) (q0 := 6) rfl rfl) rfl rfl hl.1 (Nat.le_of_ble_eq_true rfl) dX1_passSeconds_31 ⟨Nat.zero_le _, Nat.zero_le _⟩ (hA2 [(a 6)] rfl rfl) (fun H locs hP hD hS => ?_)
  have hP : va_P D vwCl (w_grinder cI cC gh a pA pM pn pt d0 q2 g0 k0 d1 q3 g1 k1 qA qM qn qt uA uM un ut sF sk sm st se fi gr br pu nr) H := hP
  have hD : va_D AA (w_grinder cI cC gh a pA pM pn pt d0 q2 g0 k0 d1 q3 g1 k1 qA qM qn qt uA uM un ut sF sk sm st se fi gr br pu nr) := hD
  refine lv_aload_n hx hb dX1_passSeconds_34 rfl (lv_at hl 1 rfl) ?_
  refine lv_dup hx hb dX1_passSeconds_35 rfl ?_
  refine va_get hx hb hts n1_ hown hK hP 0 rfl rfl 7 (Nat.le_of_ble_eq_true rfl) k1_ (fun _ h => h) rfl dX1_passSeconds_36 ?_
  refine lv_iload_n hx hb dX1_passSeconds_39 rfl (lv_at hl 2 rfl) ?_
  refine lv_iadd hx hb dX1_passSeconds_40 ?_
  refine lv_topi (fun v4 ev4 => ?_)
  replace hf := lt_e ev4 hf
  refine va_put hx hb hts n1_ tyX1 tyX1_ok nmX1 hown hK hP hD hS 0 rfl rfl 7 (Nat.le_of_ble_eq_true rfl) k1_ (fun _ h => h) rfl (v := .int v4) (tyX1_ok 7 (Nat.le_of_ble_eq_true rfl)) rfl rfl (Nat.le_of_ble_eq_true rfl) dX1_passSeconds_41 (fun H locs hP hD hS => ?_)
  have hP : va_P D vwCl (w_grinder cI cC gh a pA pM pn pt d0 q2 g0 k0 d1 q3 g1 k1 qA qM qn qt uA uM un ut sF sk sm st v4 fi gr br pu nr) H := hP
  have hD : va_D AA (w_grinder cI cC gh a pA pM pn pt d0 q2 g0 k0 d1 q3 g1 k1 qA qM qn qt uA uM un ut sF sk sm st v4 fi gr br pu nr) := hD
  obtain rfl := Option.some.inj hf
  exact ret 44 ls H locs dX1_passSeconds_44 hP hS
noncomputable def f_X1_letPass (x1 : Int32) (w0 : Int32) (w1 : Int32) (se : Int32) : Option (Int32 × Int32 × Int32 × Int32) := (if x1 < (1 : Int32) then some ((-1000001 : Int32), w0, w1, se) else (if x1 ≤ (999 : Int32) then lt ((w0 + w1)) fun v3 => (f_X1_passSeconds x1 w0 w1 se).bind fun q4 => some (((v3 - q4.1) - q4.2.1), q4.1, q4.2.1, q4.2.2) else some ((-1000001 : Int32), w0, w1, se)))
abbrev rmX1_letPass : Room := { frames := 4, cells := 0, slots := 0, locals := 64 }
set_option maxHeartbeats 4000000 in
set_option maxRecDepth 100000 in
theorem c_X1_letPass (gh : Nat) (a : Nat → Nat) (x1 : Int32) (pA : Nat → Int32) (pM : Nat → Int32) (pn : Int32) (pt : Int32) (d0 : Int32) (w0 : Int32) (g0 : Int32) (k0 : Int32) (d1 : Int32) (w1 : Int32) (g1 : Int32) (k1 : Int32) (qA : Nat → Int32) (qM : Nat → Int32) (qn : Int32) (qt : Int32) (uA : Nat → Int32) (uM : Nat → Int32) (un : Int32) (ut : Int32) (sF : Nat → Int32) (sk : Int32) (sm : Int32) (st : Nat → Int32) (se : Int32) (fi : Int32) (gr : Int32) (br : Int32) (pu : Int32) (nr : Int32) (R : Int32 × Int32 × Int32 × Int32) (hf : f_X1_letPass x1 w0 w1 se = some R) : WrI l yX1_letPass wsX1_letPass rmX1_letPass D cI cC (w_grinder cI cC gh a pA pM pn pt d0 w0 g0 k0 d1 w1 g1 k1 qA qM qn qt uA uM un ut sF sk sm st se fi gr br pu nr) (w_grinder cI cC gh a pA pM pn pt d0 R.2.1 g0 k0 d1 R.2.2.1 g1 k1 qA qM qn qt uA uM un ut sF sk sm st R.2.2.2 fi gr br pu nr) [.ref gh, .int x1] R.1 := by
  refine en_W (cc := cX1_letPass) (n := 3) (by decide) rfl (Nat.le_of_ble_eq_true rfl) ?_
  intro p e s m args below meth c Q AA ls hx hb hml hown hts hK hN hP hD hS hl ret
  have hown : s.vm.findClass RX1 = some m.cls := hown
  have hF : FX p m c cX1_letPass 3 s args wsX1_letPass RX1 D cI cC := ⟨⟨hx, hb, hml, hown, hts⟩, hK, hN⟩
  have hl : lv_has ls 3 [(0, .ref gh), (1, .int x1)] := hl
  have k1_ := hts (.constant RX1 93 (-1000001)) (List.mem_of_getElem? (i := 1) rfl)
  have k2_ := hts (.fieldLink RX1 21 "DriftGrinders$Grinder" "burr0" "LDriftGrinders$Burr;") (List.mem_of_getElem? (i := 2) rfl)
  have k3_ := hts (.fieldLink RX1 25 "DriftGrinders$Grinder" "burr1" "LDriftGrinders$Burr;") (List.mem_of_getElem? (i := 3) rfl)
  have n0_ : ∀ w ∈ wsX00, w ∈ wsX1_letPass := fun _ h => List.mem_cons_of_mem _ (List.mem_append_right _ h)
  have n1_ : ∀ w ∈ wsX10, w ∈ wsX1_letPass := fun _ h => List.mem_cons_of_mem _ (List.mem_append_left _ (List.mem_append_right _ h))
  rw [f_X1_letPass] at hf
  obtain ⟨H, hH⟩ : ∃ z : Heap, z = s.heap := ⟨_, rfl⟩
  obtain ⟨locs, hL⟩ : ∃ z : List Loc, z = [] := ⟨_, rfl⟩
  replace hP := hH ▸ hP
  replace hS : va_S AA s.heap H locs := by rw [hH, hL]; exact hS
  suffices hgoal : W p l e rmX1_letPass s m args below meth c H locs 0 0 Q (F0 m 0 ls []) by rw [hH, hL] at hgoal; exact hgoal
  clear hH hL
  refine lv_iload_n hx hb dX1_letPass_0 rfl (lv_at hl 1 rfl) ?_
  refine lv_iconst (v := (1 : Int32)) hx hb dX1_letPass_1 (by decide) ?_
  refine lv_icmp_lt (tgt := 12) hx hb dX1_letPass_2 (by decide) (fun hc1 => ?_) (fun hc1 => ?_)
  · replace hf := it hc1 hf
    refine lv_ldc hx hb hown k1_ dX1_letPass_12 ?_
    obtain rfl := Option.some.inj hf
    exact ret 14 ls _ H locs dX1_letPass_14 rfl rfl hP hS
  · replace hf := ie hc1 hf
    refine lv_iload_n hx hb dX1_letPass_5 rfl (lv_at hl 1 rfl) ?_
    refine lv_sipush (v := (999 : Int32)) hx hb dX1_letPass_6 (by decide) ?_
    refine lv_icmp_le (tgt := 15) hx hb dX1_letPass_9 (by decide) (fun hc2 => ?_) (fun hc2 => ?_)
    · replace hf := it hc2 hf
      refine lv_aload_n hx hb dX1_letPass_15 rfl (lv_at hl 0 rfl) ?_
      refine va_get hx hb hts n1_ hown hK hP 0 rfl rfl 1 (Nat.le_of_ble_eq_true rfl) k2_ (fun _ h => h) rfl dX1_letPass_16 ?_
      refine va_getN hx hb hts n0_ hown hK hP 5 rfl rfl 1 (Nat.le_of_ble_eq_true rfl) (hN.get 5 rfl) (fun _ h => h) rfl dX1_letPass_19 ?_
      refine lv_aload_n hx hb dX1_letPass_22 rfl (lv_at hl 0 rfl) ?_
      refine va_get hx hb hts n1_ hown hK hP 0 rfl rfl 2 (Nat.le_of_ble_eq_true rfl) k3_ (fun _ h => h) rfl dX1_letPass_23 ?_
      refine va_getN hx hb hts n0_ hown hK hP 6 rfl rfl 1 (Nat.le_of_ble_eq_true rfl) (hN.get 5 rfl) (fun _ h => h) rfl dX1_letPass_26 ?_
      refine lv_iadd hx hb dX1_letPass_29 ?_
      refine lv_topi (fun v3 ev3 => ?_)
      replace hf := lt_e ev3 hf
      refine lv_istore_n (lv' := [(2, .int v3), (0, .ref gh), (1, .int x1)]) hx hb dX1_letPass_30 rfl hl (by decide) rfl (fun ls hl => ?_)
      refine lv_aload_n hx hb dX1_letPass_31 rfl (lv_at hl 1 rfl) ?_
      refine lv_iload_n hx hb dX1_letPass_32 rfl (lv_at hl 2 rfl) ?_
      obtain ⟨q4, hq4, hf⟩ := ob hf
      refine cl_VV (As := [.int x1]) (rest := []) hF hP hD hS (c_X1_passSeconds gh a x1 pA pM pn pt d0 w0 g0 k0 d1 w1 g1 k1 qA qM qn qt uA uM un ut sF sk sm st se fi gr br pu nr q4 hq4) (cwV 1 hts gX1_letPass_X1_passSeconds rfl rfl rfl (by decide +kernel) ⟨(Nat.le_of_ble_eq_true rfl), (Nat.le_of_ble_eq_true rfl)⟩) [0, 1, 2, 3, 4, 5, 6, 7, 8, 9, 10, 11, 12, 13, 14, 15] rfl (by decide) (va_recv hK hP (ci := 1) (q0 := 0) rfl rfl) rfl rfl hl.1 (Nat.le_of_ble_eq_true rfl) dX1_letPass_33 ⟨Nat.zero_le _, Nat.zero_le _⟩ (hA2 [gh, (a 1), (a 2), (a 3), (a 4), (a 5), (a 6), (a 7), (a 8), (a 9), (a 10), (a 11), (a 12), (a 13), (a 14), (a 15)] rfl rfl) (fun H locs hP hD hS => ?_)
      have hP : va_P D vwCl (w_grinder cI cC gh a pA pM pn pt d0 q4.1 g0 k0 d1 q4.2.1 g1 k1 qA qM qn qt uA uM un ut sF sk sm st q4.2.2 fi gr br pu nr) H := hP
      have hD : va_D AA (w_grinder cI cC gh a pA pM pn pt d0 q4.1 g0 k0 d1 q4.2.1 g1 k1 qA qM qn qt uA uM un ut sF sk sm st q4.2.2 fi gr br pu nr) := hD
      refine lv_iload_n hx hb dX1_letPass_36 rfl (lv_at hl 0 rfl) ?_
      refine lv_aload_n hx hb dX1_letPass_37 rfl (lv_at hl 1 rfl) ?_
      refine va_get hx hb hts n1_ hown hK hP 0 rfl rfl 1 (Nat.le_of_ble_eq_true rfl) k2_ (fun _ h => h) rfl dX1_letPass_38 ?_
      refine va_getN hx hb hts n0_ hown hK hP 5 rfl rfl 1 (Nat.le_of_ble_eq_true rfl) (hN.get 5 rfl) (fun _ h => h) rfl dX1_letPass_41 ?_
      refine lv_isub hx hb dX1_letPass_44 ?_
      refine lv_aload_n hx hb dX1_letPass_45 rfl (lv_at hl 1 rfl) ?_
      refine va_get hx hb hts n1_ hown hK hP 0 rfl rfl 2 (Nat.le_of_ble_eq_true rfl) k3_ (fun _ h => h) rfl dX1_letPass_46 ?_
      refine va_getN hx hb hts n0_ hown hK hP 6 rfl rfl 1 (Nat.le_of_ble_eq_true rfl) (hN.get 5 rfl) (fun _ h => h) rfl dX1_letPass_49 ?_
      refine lv_isub hx hb dX1_letPass_52 ?_
      obtain rfl := Option.some.inj hf
      exact ret 53 ls _ H locs dX1_letPass_53 rfl rfl hP hS
    · replace hf := ie hc2 hf
      refine lv_ldc hx hb hown k1_ dX1_letPass_12 ?_
      obtain rfl := Option.some.inj hf
      exact ret 14 ls _ H locs dX1_letPass_14 rfl rfl hP hS
noncomputable def f_X1_fillIn (x1 : Int32) (x2 : Int32) (pA : Nat → Int32) (pM : Nat → Int32) (pn : Int32) (pt : Int32) (fi : Int32) : Option (Int32 × (Nat → Int32) × (Nat → Int32) × Int32 × Int32 × Int32) := (f_X7_isZeroOrOne x1).bind fun q1 => (if q1 = 0 then some ((-1000001 : Int32), pA, pM, pn, pt, fi) else (if x2 < (1 : Int32) then some ((-1000001 : Int32), pA, pM, pn, pt, fi) else (if x2 ≤ (999 : Int32) then (f_X3_hasRoomFor 6 x1 x2 pM pn pt).bind fun q5 => (if q5 = 0 then some ((-1000003 : Int32), pA, pM, pn, pt, fi) else (f_X3_pourIn 6 x1 x2 pA pM pn pt).bind fun q7 => lt ((fi + x2)) fun v8 => (f_X3_amount 6 q7.2.2.2).bind fun q9 => some (q9, q7.1, q7.2.1, q7.2.2.1, q7.2.2.2, v8)) else some ((-1000001 : Int32), pA, pM, pn, pt, fi))))
abbrev rmX1_fillIn : Room := { frames := 4, cells := 0, slots := 0, locals := 64 }
set_option maxHeartbeats 4000000 in
set_option maxRecDepth 100000 in
theorem c_X1_fillIn (gh : Nat) (a : Nat → Nat) (x1 : Int32) (x2 : Int32) (pA : Nat → Int32) (pM : Nat → Int32) (pn : Int32) (pt : Int32) (d0 : Int32) (w0 : Int32) (g0 : Int32) (k0 : Int32) (d1 : Int32) (w1 : Int32) (g1 : Int32) (k1 : Int32) (qA : Nat → Int32) (qM : Nat → Int32) (qn : Int32) (qt : Int32) (uA : Nat → Int32) (uM : Nat → Int32) (un : Int32) (ut : Int32) (sF : Nat → Int32) (sk : Int32) (sm : Int32) (st : Nat → Int32) (se : Int32) (fi : Int32) (gr : Int32) (br : Int32) (pu : Int32) (nr : Int32) (R : Int32 × (Nat → Int32) × (Nat → Int32) × Int32 × Int32 × Int32) (hf : f_X1_fillIn x1 x2 pA pM pn pt fi = some R) : WrI l yX1_fillIn wsX1_fillIn rmX1_fillIn D cI cC (w_grinder cI cC gh a pA pM pn pt d0 w0 g0 k0 d1 w1 g1 k1 qA qM qn qt uA uM un ut sF sk sm st se fi gr br pu nr) (w_grinder cI cC gh a R.2.1 R.2.2.1 R.2.2.2.1 R.2.2.2.2.1 d0 w0 g0 k0 d1 w1 g1 k1 qA qM qn qt uA uM un ut sF sk sm st se R.2.2.2.2.2 gr br pu nr) [.ref gh, .int x1, .int x2] R.1 := by
  refine en_W (cc := cX1_fillIn) (n := 3) (by decide) rfl (Nat.le_of_ble_eq_true rfl) ?_
  intro p e s m args below meth c Q AA ls hx hb hml hown hts hK hN hP hD hS hl ret
  have hown : s.vm.findClass RX1 = some m.cls := hown
  have hF : FX p m c cX1_fillIn 3 s args wsX1_fillIn RX1 D cI cC := ⟨⟨hx, hb, hml, hown, hts⟩, hK, hN⟩
  have hl : lv_has ls 3 [(0, .ref gh), (1, .int x1), (2, .int x2)] := hl
  have k1_ := hts (.constant RX1 93 (-1000001)) (List.mem_of_getElem? (i := 1) rfl)
  have k2_ := hts (.fieldLink RX1 12 "DriftGrinders$Grinder" "hopper" "LDriftGrinders$Hopper;") (List.mem_of_getElem? (i := 2) rfl)
  have k3_ := hts (.constant RX1 98 (-1000003)) (List.mem_of_getElem? (i := 3) rfl)
  have k4_ := hts (.fieldLink RX1 74 "DriftGrinders$Grinder" "filled" "I") (List.mem_of_getElem? (i := 4) rfl)
  have k5_ := hts (.static yX7_isZeroOrOne) (List.mem_of_getElem? (i := 5) rfl)
  have k6_ := hts (.initialized RX7) (List.mem_of_getElem? (i := 6) rfl)
  have n1_ : ∀ w ∈ wsX10, w ∈ wsX1_fillIn := fun _ h => List.mem_cons_of_mem _ (List.mem_append_left _ (List.mem_append_left _ (List.mem_append_right _ h)))
  rw [f_X1_fillIn] at hf
  obtain ⟨H, hH⟩ : ∃ z : Heap, z = s.heap := ⟨_, rfl⟩
  obtain ⟨locs, hL⟩ : ∃ z : List Loc, z = [] := ⟨_, rfl⟩
  replace hP := hH ▸ hP
  replace hS : va_S AA s.heap H locs := by rw [hH, hL]; exact hS
  suffices hgoal : W p l e rmX1_fillIn s m args below meth c H locs 0 0 Q (F0 m 0 ls []) by rw [hH, hL] at hgoal; exact hgoal
  clear hH hL
  refine lv_iload_n hx hb dX1_fillIn_0 rfl (lv_at hl 1 rfl) ?_
  obtain ⟨q1, hq1, hf⟩ := ob hf
  refine cl_RN (As := [.int x1]) (rest := []) hF hP hD (c_X7_isZeroOrOne x1 q1 hq1) ⟨va_cnB 1 hts gX1_fillIn_X7_isZeroOrOne_n89 rfl rfl rfl (hN.nw 25 rfl) k6_ (by decide +kernel) ⟨(Nat.le_of_ble_eq_true rfl), (Nat.le_of_ble_eq_true rfl)⟩, k5_, trivial⟩ [] rfl (by decide) rfl rfl hl.1 (Nat.le_of_ble_eq_true rfl) dX1_fillIn_1 ⟨Nat.zero_le _, Nat.zero_le _⟩ ?_
  refine lv_if_eq (tgt := 19) hx hb dX1_fillIn_4 (by decide) (fun hc2 => ?_) (fun hc2 => ?_)
  · replace hf := it hc2 hf
    refine lv_ldc hx hb hown k1_ dX1_fillIn_19 ?_
    obtain rfl := Option.some.inj hf
    exact ret 21 ls _ H locs dX1_fillIn_21 rfl rfl hP hS
  · replace hf := ie hc2 hf
    refine lv_iload_n hx hb dX1_fillIn_7 rfl (lv_at hl 2 rfl) ?_
    refine lv_iconst (v := (1 : Int32)) hx hb dX1_fillIn_8 (by decide) ?_
    refine lv_icmp_lt (tgt := 19) hx hb dX1_fillIn_9 (by decide) (fun hc3 => ?_) (fun hc3 => ?_)
    · replace hf := it hc3 hf
      refine lv_ldc hx hb hown k1_ dX1_fillIn_19 ?_
      obtain rfl := Option.some.inj hf
      exact ret 21 ls _ H locs dX1_fillIn_21 rfl rfl hP hS
    · replace hf := ie hc3 hf
      refine lv_iload_n hx hb dX1_fillIn_12 rfl (lv_at hl 2 rfl) ?_
      refine lv_sipush (v := (999 : Int32)) hx hb dX1_fillIn_13 (by decide) ?_
      refine lv_icmp_le (tgt := 22) hx hb dX1_fillIn_16 (by decide) (fun hc4 => ?_) (fun hc4 => ?_)
      · replace hf := it hc4 hf
        refine lv_aload_n hx hb dX1_fillIn_22 rfl (lv_at hl 0 rfl) ?_
        refine va_get hx hb hts n1_ hown hK hP 0 rfl rfl 0 (Nat.le_of_ble_eq_true rfl) k2_ (fun _ h => h) rfl dX1_fillIn_23 ?_
        refine lv_iload_n hx hb dX1_fillIn_26 rfl (lv_at hl 1 rfl) ?_
        refine lv_iload_n hx hb dX1_fillIn_27 rfl (lv_at hl 2 rfl) ?_
        obtain ⟨q5, hq5, hf⟩ := ob hf
        refine cl_RV (As := [.int x1, .int x2]) (rest := []) hF hP hD (c_X3_hasRoomFor (a 1) (a 2) (a 3) (a 4) 6 x1 x2 pA pM pn pt q5 hq5) (cwV 2 hts gX1_fillIn_X3_hasRoomFor rfl rfl rfl (by decide +kernel) ⟨(Nat.le_of_ble_eq_true rfl), (Nat.le_of_ble_eq_true rfl)⟩) [1, 2, 3, 4] rfl (by decide) (va_recv hK hP (ci := 3) (q0 := 1) rfl rfl) rfl rfl hl.1 (Nat.le_of_ble_eq_true rfl) dX1_fillIn_28 ⟨Nat.zero_le _, Nat.zero_le _⟩ ?_
        refine lv_if_ne (tgt := 37) hx hb dX1_fillIn_31 (by decide) (fun hc6 => ?_) (fun hc6 => ?_)
        · replace hf := ie hc6 hf
          refine lv_aload_n hx hb dX1_fillIn_37 rfl (lv_at hl 0 rfl) ?_
          refine va_get hx hb hts n1_ hown hK hP 0 rfl rfl 0 (Nat.le_of_ble_eq_true rfl) k2_ (fun _ h => h) rfl dX1_fillIn_38 ?_
          refine lv_iload_n hx hb dX1_fillIn_41 rfl (lv_at hl 1 rfl) ?_
          refine lv_iload_n hx hb dX1_fillIn_42 rfl (lv_at hl 2 rfl) ?_
          obtain ⟨q7, hq7, hf⟩ := ob hf
          refine cl_VV (As := [.int x1, .int x2]) (rest := []) hF hP hD hS (c_X3_pourIn (a 1) (a 2) (a 3) (a 4) 6 x1 x2 pA pM pn pt q7 hq7) (cwV 2 hts gX1_fillIn_X3_pourIn rfl rfl rfl (by decide +kernel) ⟨(Nat.le_of_ble_eq_true rfl), (Nat.le_of_ble_eq_true rfl)⟩) [1, 2, 3, 4] rfl (by decide) (va_recv hK hP (ci := 3) (q0 := 1) rfl rfl) rfl rfl hl.1 (Nat.le_of_ble_eq_true rfl) dX1_fillIn_43 ⟨Nat.zero_le _, Nat.zero_le _⟩ (hA2 [(a 1), (a 2), (a 3), (a 4)] rfl rfl) (fun H locs hP hD hS => ?_)
          have hP : va_P D vwCl (w_grinder cI cC gh a q7.1 q7.2.1 q7.2.2.1 q7.2.2.2 d0 w0 g0 k0 d1 w1 g1 k1 qA qM qn qt uA uM un ut sF sk sm st se fi gr br pu nr) H := hP
          have hD : va_D AA (w_grinder cI cC gh a q7.1 q7.2.1 q7.2.2.1 q7.2.2.2 d0 w0 g0 k0 d1 w1 g1 k1 qA qM qn qt uA uM un ut sF sk sm st se fi gr br pu nr) := hD
          refine lv_aload_n hx hb dX1_fillIn_46 rfl (lv_at hl 0 rfl) ?_
          refine lv_dup hx hb dX1_fillIn_47 rfl ?_
          refine va_get hx hb hts n1_ hown hK hP 0 rfl rfl 8 (Nat.le_of_ble_eq_true rfl) k4_ (fun _ h => h) rfl dX1_fillIn_48 ?_
          refine lv_iload_n hx hb dX1_fillIn_51 rfl (lv_at hl 2 rfl) ?_
          refine lv_iadd hx hb dX1_fillIn_52 ?_
          refine lv_topi (fun v8 ev8 => ?_)
          replace hf := lt_e ev8 hf
          refine va_put hx hb hts n1_ tyX1 tyX1_ok nmX1 hown hK hP hD hS 0 rfl rfl 8 (Nat.le_of_ble_eq_true rfl) k4_ (fun _ h => h) rfl (v := .int v8) (tyX1_ok 8 (Nat.le_of_ble_eq_true rfl)) rfl rfl (Nat.le_of_ble_eq_true rfl) dX1_fillIn_53 (fun H locs hP hD hS => ?_)
          have hP : va_P D vwCl (w_grinder cI cC gh a q7.1 q7.2.1 q7.2.2.1 q7.2.2.2 d0 w0 g0 k0 d1 w1 g1 k1 qA qM qn qt uA uM un ut sF sk sm st se v8 gr br pu nr) H := hP
          have hD : va_D AA (w_grinder cI cC gh a q7.1 q7.2.1 q7.2.2.1 q7.2.2.2 d0 w0 g0 k0 d1 w1 g1 k1 qA qM qn qt uA uM un ut sF sk sm st se v8 gr br pu nr) := hD
          refine lv_aload_n hx hb dX1_fillIn_56 rfl (lv_at hl 0 rfl) ?_
          refine va_get hx hb hts n1_ hown hK hP 0 rfl rfl 0 (Nat.le_of_ble_eq_true rfl) k2_ (fun _ h => h) rfl dX1_fillIn_57 ?_
          obtain ⟨q9, hq9, hf⟩ := ob hf
          refine cl_RV (As := []) (rest := []) hF hP hD (c_X3_amount (a 1) (a 2) (a 3) (a 4) 6 q7.1 q7.2.1 q7.2.2.1 q7.2.2.2 q9 hq9) (cwV 0 hts gX1_fillIn_X3_amount rfl rfl rfl (by decide +kernel) ⟨(Nat.le_of_ble_eq_true rfl), (Nat.le_of_ble_eq_true rfl)⟩) [1, 2, 3, 4] rfl (by decide) (va_recv hK hP (ci := 3) (q0 := 1) rfl rfl) rfl rfl hl.1 (Nat.le_of_ble_eq_true rfl) dX1_fillIn_60 ⟨Nat.zero_le _, Nat.zero_le _⟩ ?_
          obtain rfl := Option.some.inj hf
          exact ret 63 ls _ H locs dX1_fillIn_63 rfl rfl hP hS
        · replace hf := it hc6 hf
          refine lv_ldc hx hb hown k3_ dX1_fillIn_34 ?_
          obtain rfl := Option.some.inj hf
          exact ret 36 ls _ H locs dX1_fillIn_36 rfl rfl hP hS
      · replace hf := ie hc4 hf
        refine lv_ldc hx hb hown k1_ dX1_fillIn_19 ?_
        obtain rfl := Option.some.inj hf
        exact ret 21 ls _ H locs dX1_fillIn_21 rfl rfl hP hS
noncomputable def f_X1_grindBy (x1 : Int32) (x2 : Int32) (pA : Nat → Int32) (pM : Nat → Int32) (pn : Int32) (pt : Int32) (d0 : Int32) (w0 : Int32) (g0 : Int32) (d1 : Int32) (w1 : Int32) (g1 : Int32) (qA : Nat → Int32) (qM : Nat → Int32) (qn : Int32) (qt : Int32) (uA : Nat → Int32) (uM : Nat → Int32) (un : Int32) (ut : Int32) (st : Nat → Int32) (se : Int32) (gr : Int32) : Option (Int32 × (Nat → Int32) × (Nat → Int32) × Int32 × Int32 × Int32 × Int32 × Int32 × Int32 × (Nat → Int32) × (Nat → Int32) × Int32 × Int32 × (Nat → Int32) × (Nat → Int32) × Int32 × Int32 × Int32 × Int32) := (f_X7_isZeroOrOne x1).bind fun q1 => (if q1 = 0 then some ((-1000001 : Int32), pA, pM, pn, pt, w0, g0, w1, g1, qA, qM, qn, qt, uA, uM, un, ut, se, gr) else (if x2 < (1 : Int32) then some ((-1000001 : Int32), pA, pM, pn, pt, w0, g0, w1, g1, qA, qM, qn, qt, uA, uM, un, ut, se, gr) else (if x2 ≤ (400 : Int32) then (f_X3_amount 6 pt).bind fun q5 => (if x2 ≤ q5 then lt ((if (0 : Int32) < ((qt + x2) - (st (2 : Int32).toNatClampNeg)) then ((qt + x2) - (st (2 : Int32).toNatClampNeg)) else (0 : Int32))) fun v7 => (if (ut + v7) ≤ (400 : Int32) then (if x1 = 0 then (f_X0_gap d0 w0).bind fun q10 => (f_X3_letOut 6 106 x2 x1 q10 pA pM pn pt qA qM qn qt).bind fun q11 => (f_X0_warmByGrinding x2 w0 g0).bind fun q12 => (f_X5_letOut 106 400 v7 (0 : Int32) q11.2.2.2.2.1 q11.2.2.2.2.2.1 q11.2.2.2.2.2.2.1 q11.2.2.2.2.2.2.2 uA uM un ut).bind fun q13 => lt ((gr + x2)) fun v14 => (f_X1_passSeconds ((x2 + (9 : Int32)) / (10 : Int32)) q12.1 w1 se).bind fun q15 => some (v7, q11.1, q11.2.1, q11.2.2.1, q11.2.2.2.1, q15.1, q12.2, q15.2.1, g1, q13.1, q13.2.1, q13.2.2.1, q13.2.2.2.1, q13.2.2.2.2.1, q13.2.2.2.2.2.1, q13.2.2.2.2.2.2.1, q13.2.2.2.2.2.2.2, q15.2.2, v14) else (f_X0_gap d1 w1).bind fun q16 => (f_X3_letOut 6 106 x2 x1 q16 pA pM pn pt qA qM qn qt).bind fun q17 => (f_X0_warmByGrinding x2 w1 g1).bind fun q18 => (f_X5_letOut 106 400 v7 (0 : Int32) q17.2.2.2.2.1 q17.2.2.2.2.2.1 q17.2.2.2.2.2.2.1 q17.2.2.2.2.2.2.2 uA uM un ut).bind fun q19 => lt ((gr + x2)) fun v20 => (f_X1_passSeconds ((x2 + (9 : Int32)) / (10 : Int32)) w0 q18.1 se).bind fun q21 => some (v7, q17.1, q17.2.1, q17.2.2.1, q17.2.2.2.1, q21.1, g0, q21.2.1, q18.2, q19.1, q19.2.1, q19.2.2.1, q19.2.2.2.1, q19.2.2.2.2.1, q19.2.2.2.2.2.1, q19.2.2.2.2.2.2.1, q19.2.2.2.2.2.2.2, q21.2.2, v20)) else some ((-1000003 : Int32), pA, pM, pn, pt, w0, g0, w1, g1, qA, qM, qn, qt, uA, uM, un, ut, se, gr)) else some ((-1000002 : Int32), pA, pM, pn, pt, w0, g0, w1, g1, qA, qM, qn, qt, uA, uM, un, ut, se, gr)) else some ((-1000001 : Int32), pA, pM, pn, pt, w0, g0, w1, g1, qA, qM, qn, qt, uA, uM, un, ut, se, gr))))
abbrev rmX1_grindBy : Room := { frames := 4, cells := 0, slots := 0, locals := 132 }
set_option maxHeartbeats 4000000 in
set_option maxRecDepth 100000 in
theorem c_X1_grindBy (gh : Nat) (a : Nat → Nat) (x1 : Int32) (x2 : Int32) (pA : Nat → Int32) (pM : Nat → Int32) (pn : Int32) (pt : Int32) (d0 : Int32) (w0 : Int32) (g0 : Int32) (k0 : Int32) (d1 : Int32) (w1 : Int32) (g1 : Int32) (k1 : Int32) (qA : Nat → Int32) (qM : Nat → Int32) (qn : Int32) (qt : Int32) (uA : Nat → Int32) (uM : Nat → Int32) (un : Int32) (ut : Int32) (sF : Nat → Int32) (sk : Int32) (sm : Int32) (st : Nat → Int32) (se : Int32) (fi : Int32) (gr : Int32) (br : Int32) (pu : Int32) (nr : Int32) (R : Int32 × (Nat → Int32) × (Nat → Int32) × Int32 × Int32 × Int32 × Int32 × Int32 × Int32 × (Nat → Int32) × (Nat → Int32) × Int32 × Int32 × (Nat → Int32) × (Nat → Int32) × Int32 × Int32 × Int32 × Int32) (hf : f_X1_grindBy x1 x2 pA pM pn pt d0 w0 g0 d1 w1 g1 qA qM qn qt uA uM un ut st se gr = some R) : WrI l yX1_grindBy wsX1_grindBy rmX1_grindBy D cI cC (w_grinder cI cC gh a pA pM pn pt d0 w0 g0 k0 d1 w1 g1 k1 qA qM qn qt uA uM un ut sF sk sm st se fi gr br pu nr) (w_grinder cI cC gh a R.2.1 R.2.2.1 R.2.2.2.1 R.2.2.2.2.1 d0 R.2.2.2.2.2.1 R.2.2.2.2.2.2.1 k0 d1 R.2.2.2.2.2.2.2.1 R.2.2.2.2.2.2.2.2.1 k1 R.2.2.2.2.2.2.2.2.2.1 R.2.2.2.2.2.2.2.2.2.2.1 R.2.2.2.2.2.2.2.2.2.2.2.1 R.2.2.2.2.2.2.2.2.2.2.2.2.1 R.2.2.2.2.2.2.2.2.2.2.2.2.2.1 R.2.2.2.2.2.2.2.2.2.2.2.2.2.2.1 R.2.2.2.2.2.2.2.2.2.2.2.2.2.2.2.1 R.2.2.2.2.2.2.2.2.2.2.2.2.2.2.2.2.1 sF sk sm st R.2.2.2.2.2.2.2.2.2.2.2.2.2.2.2.2.2.1 fi R.2.2.2.2.2.2.2.2.2.2.2.2.2.2.2.2.2.2 br pu nr) [.ref gh, .int x1, .int x2] R.1 := by
  refine en_W (cc := cX1_grindBy) (n := 5) (by decide) rfl (Nat.le_of_ble_eq_true rfl) ?_
  intro p e s m args below meth c Q AA ls hx hb hml hown hts hK hN hP hD hS hl ret
  have hown : s.vm.findClass RX1 = some m.cls := hown
  have hF : FX p m c cX1_grindBy 5 s args wsX1_grindBy RX1 D cI cC := ⟨⟨hx, hb, hml, hown, hts⟩, hK, hN⟩
  have hl : lv_has ls 5 [(0, .ref gh), (1, .int x1), (2, .int x2)] := hl
  have k10_ := hts (.fieldLink RX1 37 "DriftGrinders$Grinder" "basket" "LDriftGrinders$Row;") (List.mem_of_getElem? (i := 10) rfl)
  have k11_ := hts (.constant RX1 98 (-1000003)) (List.mem_of_getElem? (i := 11) rfl)
  have k12_ := hts (.fieldLink RX1 77 "DriftGrinders$Grinder" "ground" "I") (List.mem_of_getElem? (i := 12) rfl)
  have k13_ := hts (.static yX7_isZeroOrOne) (List.mem_of_getElem? (i := 13) rfl)
  have k14_ := hts (.initialized RX7) (List.mem_of_getElem? (i := 14) rfl)
  have k1_ := hts (.constant RX1 93 (-1000001)) (List.mem_of_getElem? (i := 1) rfl)
  have k2_ := hts (.fieldLink RX1 12 "DriftGrinders$Grinder" "hopper" "LDriftGrinders$Hopper;") (List.mem_of_getElem? (i := 2) rfl)
  have k3_ := hts (.constant RX1 107 (-1000002)) (List.mem_of_getElem? (i := 3) rfl)
  have k4_ := hts (.fieldLink RX1 33 "DriftGrinders$Grinder" "chute" "LDriftGrinders$Row;") (List.mem_of_getElem? (i := 4) rfl)
  have k5_ := hts (.fieldLink RX1 47 "DriftGrinders$Grinder" "settings" "[I") (List.mem_of_getElem? (i := 5) rfl)
  have k6_ := hts (.methodLink RX1 111 Lib.Math.max.name) (List.mem_of_getElem? (i := 6) rfl)
  have k7_ := hts (.static Lib.Math.max.name) (List.mem_of_getElem? (i := 7) rfl)
  have k8_ := hts (.initialized "java/lang/Math") (List.mem_of_getElem? (i := 8) rfl)
  have k9_ := hts (.code Lib.Math.max.name Lib.Math.max.code 2 (some .int)) (List.mem_of_getElem? (i := 9) rfl)
  have n1_ : ∀ w ∈ wsX10, w ∈ wsX1_grindBy := fun _ h => List.mem_cons_of_mem _ (List.mem_append_left _ (List.mem_append_left _ (List.mem_append_left _ (List.mem_append_right _ h))))
  have n5_ : ∀ w ∈ wsX50, w ∈ wsX1_grindBy := fun _ h => List.mem_cons_of_mem _ (List.mem_append_left _ (List.mem_append_left _ (List.mem_append_right _ h)))
  rw [f_X1_grindBy] at hf
  obtain ⟨H, hH⟩ : ∃ z : Heap, z = s.heap := ⟨_, rfl⟩
  obtain ⟨locs, hL⟩ : ∃ z : List Loc, z = [] := ⟨_, rfl⟩
  replace hP := hH ▸ hP
  replace hS : va_S AA s.heap H locs := by rw [hH, hL]; exact hS
  suffices hgoal : W p l e rmX1_grindBy s m args below meth c H locs 0 0 Q (F0 m 0 ls []) by rw [hH, hL] at hgoal; exact hgoal
  clear hH hL
  refine lv_iload_n hx hb dX1_grindBy_0 rfl (lv_at hl 1 rfl) ?_
  obtain ⟨q1, hq1, hf⟩ := ob hf
  refine cl_RN (As := [.int x1]) (rest := []) hF hP hD (c_X7_isZeroOrOne x1 q1 hq1) ⟨va_cnB 1 hts gX1_grindBy_X7_isZeroOrOne_n89 rfl rfl rfl (hN.nw 25 rfl) k14_ (by decide +kernel) ⟨(Nat.le_of_ble_eq_true rfl), (Nat.le_of_ble_eq_true rfl)⟩, k13_, trivial⟩ [] rfl (by decide) rfl rfl hl.1 (Nat.le_of_ble_eq_true rfl) dX1_grindBy_1 ⟨Nat.zero_le _, Nat.zero_le _⟩ ?_
  refine lv_if_eq (tgt := 19) hx hb dX1_grindBy_4 (by decide) (fun hc2 => ?_) (fun hc2 => ?_)
  · replace hf := it hc2 hf
    refine lv_ldc hx hb hown k1_ dX1_grindBy_19 ?_
    obtain rfl := Option.some.inj hf
    exact ret 21 ls _ H locs dX1_grindBy_21 rfl rfl hP hS
  · replace hf := ie hc2 hf
    refine lv_iload_n hx hb dX1_grindBy_7 rfl (lv_at hl 2 rfl) ?_
    refine lv_iconst (v := (1 : Int32)) hx hb dX1_grindBy_8 (by decide) ?_
    refine lv_icmp_lt (tgt := 19) hx hb dX1_grindBy_9 (by decide) (fun hc3 => ?_) (fun hc3 => ?_)
    · replace hf := it hc3 hf
      refine lv_ldc hx hb hown k1_ dX1_grindBy_19 ?_
      obtain rfl := Option.some.inj hf
      exact ret 21 ls _ H locs dX1_grindBy_21 rfl rfl hP hS
    · replace hf := ie hc3 hf
      refine lv_iload_n hx hb dX1_grindBy_12 rfl (lv_at hl 2 rfl) ?_
      refine lv_sipush (v := (400 : Int32)) hx hb dX1_grindBy_13 (by decide) ?_
      refine lv_icmp_le (tgt := 22) hx hb dX1_grindBy_16 (by decide) (fun hc4 => ?_) (fun hc4 => ?_)
      · replace hf := it hc4 hf
        refine lv_aload_n hx hb dX1_grindBy_22 rfl (lv_at hl 0 rfl) ?_
        refine va_get hx hb hts n1_ hown hK hP 0 rfl rfl 0 (Nat.le_of_ble_eq_true rfl) k2_ (fun _ h => h) rfl dX1_grindBy_23 ?_
        obtain ⟨q5, hq5, hf⟩ := ob hf
        refine cl_RV (As := []) (rest := []) hF hP hD (c_X3_amount (a 1) (a 2) (a 3) (a 4) 6 pA pM pn pt q5 hq5) (cwV 0 hts gX1_grindBy_X3_amount rfl rfl rfl (by decide +kernel) ⟨(Nat.le_of_ble_eq_true rfl), (Nat.le_of_ble_eq_true rfl)⟩) [1, 2, 3, 4] rfl (by decide) (va_recv hK hP (ci := 3) (q0 := 1) rfl rfl) rfl rfl hl.1 (Nat.le_of_ble_eq_true rfl) dX1_grindBy_26 ⟨Nat.zero_le _, Nat.zero_le _⟩ ?_
        refine lv_iload_n hx hb dX1_grindBy_29 rfl (lv_at hl 2 rfl) ?_
        refine lv_icmp_ge (tgt := 36) hx hb dX1_grindBy_30 (by decide) (fun hc6 => ?_) (fun hc6 => ?_)
        · replace hf := it hc6 hf
          refine lv_iconst (v := (0 : Int32)) hx hb dX1_grindBy_36 (by decide) ?_
          refine lv_aload_n hx hb dX1_grindBy_37 rfl (lv_at hl 0 rfl) ?_
          refine va_get hx hb hts n1_ hown hK hP 0 rfl rfl 3 (Nat.le_of_ble_eq_true rfl) k4_ (fun _ h => h) rfl dX1_grindBy_38 ?_
          refine va_getN hx hb hts n5_ hown hK hP 7 rfl rfl 3 (Nat.le_of_ble_eq_true rfl) (hN.get 3 rfl) (fun _ h => h) rfl dX1_grindBy_41 ?_
          refine lv_iload_n hx hb dX1_grindBy_44 rfl (lv_at hl 2 rfl) ?_
          refine lv_iadd hx hb dX1_grindBy_45 ?_
          refine lv_aload_n hx hb dX1_grindBy_46 rfl (lv_at hl 0 rfl) ?_
          refine va_get hx hb hts n1_ hown hK hP 0 rfl rfl 6 (Nat.le_of_ble_eq_true rfl) k5_ (fun _ h => h) rfl dX1_grindBy_47 ?_
          refine lv_iconst (v := (2 : Int32)) hx hb dX1_grindBy_50 (by decide) ?_
          refine va_iald hx hb hK hP 15 0 rfl rfl (show ¬ ((2 : Int32) < 0 ∨ 6 ≤ (2 : Int32).toNatClampNeg) by decide) dX1_grindBy_51 ?_
          refine lv_isub hx hb dX1_grindBy_52 ?_
          refine va_mmax hx hb (hml.trans hl.1.symm) hown k6_ k7_ k8_ k9_ (Nat.le_of_ble_eq_true rfl) (Nat.le_of_ble_eq_true rfl) (Nat.zero_le _) (Nat.zero_le _) dX1_grindBy_53 ?_
          refine lv_topi (fun v7 ev7 => ?_)
          replace hf := lt_e ev7 hf
          refine lv_istore_n (lv' := [(3, .int v7), (0, .ref gh), (1, .int x1), (2, .int x2)]) hx hb dX1_grindBy_56 rfl hl (by decide) rfl (fun ls hl => ?_)
          refine lv_aload_n hx hb dX1_grindBy_57 rfl (lv_at hl 1 rfl) ?_
          refine va_get hx hb hts n1_ hown hK hP 0 rfl rfl 4 (Nat.le_of_ble_eq_true rfl) k10_ (fun _ h => h) rfl dX1_grindBy_58 ?_
          refine va_getN hx hb hts n5_ hown hK hP 10 rfl rfl 3 (Nat.le_of_ble_eq_true rfl) (hN.get 3 rfl) (fun _ h => h) rfl dX1_grindBy_61 ?_
          refine lv_iload_n hx hb dX1_grindBy_64 rfl (lv_at hl 0 rfl) ?_
          refine lv_iadd hx hb dX1_grindBy_65 ?_
          refine lv_sipush (v := (400 : Int32)) hx hb dX1_grindBy_66 (by decide) ?_
          refine lv_icmp_le (tgt := 75) hx hb dX1_grindBy_69 (by decide) (fun hc8 => ?_) (fun hc8 => ?_)
          · replace hf := it hc8 hf
            refine lv_aload_n hx hb dX1_grindBy_75 rfl (lv_at hl 1 rfl) ?_
            refine lv_iload_n hx hb dX1_grindBy_76 rfl (lv_at hl 2 rfl) ?_
            by_cases hc9 : x1 = 0
            · replace hf := it hc9 hf
              refine cl_AV (As := [.int x1]) (rest := []) hF hP hD (c_X1_burrNumbered_0 gh a x1 pA pM pn pt d0 w0 g0 k0 d1 w1 g1 k1 qA qM qn qt uA uM un ut sF sk sm st se fi gr br pu nr hc9) (cwV 1 hts gX1_grindBy_X1_burrNumbered rfl rfl rfl (by decide +kernel) ⟨(Nat.le_of_ble_eq_true rfl), (Nat.le_of_ble_eq_true rfl)⟩) [0, 1, 2, 3, 4, 5, 6, 7, 8, 9, 10, 11, 12, 13, 14, 15] rfl (by decide) (va_recv hK hP (ci := 1) (q0 := 0) rfl rfl) rfl rfl hl.1 (Nat.le_of_ble_eq_true rfl) dX1_grindBy_77 ⟨Nat.zero_le _, Nat.zero_le _⟩ ?_
              refine lv_astore (lv' := [(4, .ref (a 5)), (3, .int v7), (0, .ref gh), (1, .int x1), (2, .int x2)]) hx hb dX1_grindBy_80 hl (by decide) rfl (fun ls hl => ?_)
              refine lv_aload_n hx hb dX1_grindBy_82 rfl (lv_at hl 2 rfl) ?_
              refine va_get hx hb hts n1_ hown hK hP 0 rfl rfl 0 (Nat.le_of_ble_eq_true rfl) k2_ (fun _ h => h) rfl dX1_grindBy_83 ?_
              refine lv_iload_n hx hb dX1_grindBy_86 rfl (lv_at hl 4 rfl) ?_
              refine lv_iload_n hx hb dX1_grindBy_87 rfl (lv_at hl 3 rfl) ?_
              refine lv_aload hx hb dX1_grindBy_88 (lv_at hl 0 rfl) ?_
              obtain ⟨q10, hq10, hf⟩ := ob hf
              refine cl_RV (As := []) (rest := [.int x1, .int x2, .ref (a 1)]) hF hP hD (c_X0_gap (a 5) d0 w0 g0 k0 q10 hq10) (cwV 0 hts gX1_grindBy_X0_gap rfl rfl rfl (by decide +kernel) ⟨(Nat.le_of_ble_eq_true rfl), (Nat.le_of_ble_eq_true rfl)⟩) [5] rfl (by decide) (va_recv hK hP (ci := 0) (q0 := 5) rfl rfl) rfl rfl hl.1 (Nat.le_of_ble_eq_true rfl) dX1_grindBy_90 ⟨Nat.zero_le _, Nat.zero_le _⟩ ?_
              refine lv_aload_n hx hb dX1_grindBy_93 rfl (lv_at hl 2 rfl) ?_
              refine va_get hx hb hts n1_ hown hK hP 0 rfl rfl 3 (Nat.le_of_ble_eq_true rfl) k4_ (fun _ h => h) rfl dX1_grindBy_94 ?_
              obtain ⟨q11, hq11, hf⟩ := ob hf
              refine cl_VV (As := [.int x2, .int x1, .int q10, .ref (a 7)]) (rest := []) hF hP hD hS (c_X3_letOut (a 1) (a 2) (a 3) (a 4) (a 7) (a 8) (a 9) 6 106 x2 x1 q10 pA pM pn pt qA qM qn qt q11 hq11) (cwV 4 hts gX1_grindBy_X3_letOut rfl rfl rfl (by decide +kernel) ⟨(Nat.le_of_ble_eq_true rfl), (Nat.le_of_ble_eq_true rfl)⟩) [1, 2, 3, 4, 7, 8, 9] rfl (by decide) (va_recv hK hP (ci := 3) (q0 := 1) rfl rfl) rfl rfl hl.1 (Nat.le_of_ble_eq_true rfl) dX1_grindBy_97 ⟨Nat.zero_le _, Nat.zero_le _⟩ (hA2 [(a 1), (a 2), (a 3), (a 4), (a 7), (a 8), (a 9)] rfl rfl) (fun H locs hP hD hS => ?_)
              have hP : va_P D vwCl (w_grinder cI cC gh a q11.1 q11.2.1 q11.2.2.1 q11.2.2.2.1 d0 w0 g0 k0 d1 w1 g1 k1 q11.2.2.2.2.1 q11.2.2.2.2.2.1 q11.2.2.2.2.2.2.1 q11.2.2.2.2.2.2.2 uA uM un ut sF sk sm st se fi gr br pu nr) H := hP
              have hD : va_D AA (w_grinder cI cC gh a q11.1 q11.2.1 q11.2.2.1 q11.2.2.2.1 d0 w0 g0 k0 d1 w1 g1 k1 q11.2.2.2.2.1 q11.2.2.2.2.2.1 q11.2.2.2.2.2.2.1 q11.2.2.2.2.2.2.2 uA uM un ut sF sk sm st se fi gr br pu nr) := hD
              refine lv_aload hx hb dX1_grindBy_100 (lv_at hl 0 rfl) ?_
              refine lv_iload_n hx hb dX1_grindBy_102 rfl (lv_at hl 4 rfl) ?_
              obtain ⟨q12, hq12, hf⟩ := ob hf
              refine cl_VV (As := [.int x2]) (rest := []) hF hP hD hS (c_X0_warmByGrinding (a 5) x2 d0 w0 g0 k0 q12 hq12) (cwV 1 hts gX1_grindBy_X0_warmByGrinding rfl rfl rfl (by decide +kernel) ⟨(Nat.le_of_ble_eq_true rfl), (Nat.le_of_ble_eq_true rfl)⟩) [5] rfl (by decide) (va_recv hK hP (ci := 0) (q0 := 5) rfl rfl) rfl rfl hl.1 (Nat.le_of_ble_eq_true rfl) dX1_grindBy_103 ⟨Nat.zero_le _, Nat.zero_le _⟩ (hA2 [(a 5)] rfl rfl) (fun H locs hP hD hS => ?_)
              have hP : va_P D vwCl (w_grinder cI cC gh a q11.1 q11.2.1 q11.2.2.1 q11.2.2.2.1 d0 q12.1 q12.2 k0 d1 w1 g1 k1 q11.2.2.2.2.1 q11.2.2.2.2.2.1 q11.2.2.2.2.2.2.1 q11.2.2.2.2.2.2.2 uA uM un ut sF sk sm st se fi gr br pu nr) H := hP
              have hD : va_D AA (w_grinder cI cC gh a q11.1 q11.2.1 q11.2.2.1 q11.2.2.2.1 d0 q12.1 q12.2 k0 d1 w1 g1 k1 q11.2.2.2.2.1 q11.2.2.2.2.2.1 q11.2.2.2.2.2.2.1 q11.2.2.2.2.2.2.2 uA uM un ut sF sk sm st se fi gr br pu nr) := hD
              refine lv_aload_n hx hb dX1_grindBy_106 rfl (lv_at hl 2 rfl) ?_
              refine va_get hx hb hts n1_ hown hK hP 0 rfl rfl 3 (Nat.le_of_ble_eq_true rfl) k4_ (fun _ h => h) rfl dX1_grindBy_107 ?_
              refine lv_iload_n hx hb dX1_grindBy_110 rfl (lv_at hl 1 rfl) ?_
              refine lv_iconst (v := (0 : Int32)) hx hb dX1_grindBy_111 (by decide) ?_
              refine lv_aload_n hx hb dX1_grindBy_112 rfl (lv_at hl 2 rfl) ?_
              refine va_get hx hb hts n1_ hown hK hP 0 rfl rfl 4 (Nat.le_of_ble_eq_true rfl) k10_ (fun _ h => h) rfl dX1_grindBy_113 ?_
              obtain ⟨q13, hq13, hf⟩ := ob hf
              refine cl_VV (As := [.int v7, .int (0 : Int32), .ref (a 10)]) (rest := []) hF hP hD hS (c_X5_letOut (a 7) (a 8) (a 9) (a 10) (a 11) (a 12) 106 400 v7 (0 : Int32) q11.2.2.2.2.1 q11.2.2.2.2.2.1 q11.2.2.2.2.2.2.1 q11.2.2.2.2.2.2.2 uA uM un ut q13 hq13) (cwV 3 hts gX1_grindBy_X5_letOut rfl rfl rfl (by decide +kernel) ⟨(Nat.le_of_ble_eq_true rfl), (Nat.le_of_ble_eq_true rfl)⟩) [7, 8, 9, 10, 11, 12] rfl (by decide) (va_recv hK hP (ci := 5) (q0 := 7) rfl rfl) rfl rfl hl.1 (Nat.le_of_ble_eq_true rfl) dX1_grindBy_116 ⟨Nat.zero_le _, Nat.zero_le _⟩ (hA2 [(a 7), (a 8), (a 9), (a 10), (a 11), (a 12)] rfl rfl) (fun H locs hP hD hS => ?_)
              have hP : va_P D vwCl (w_grinder cI cC gh a q11.1 q11.2.1 q11.2.2.1 q11.2.2.2.1 d0 q12.1 q12.2 k0 d1 w1 g1 k1 q13.1 q13.2.1 q13.2.2.1 q13.2.2.2.1 q13.2.2.2.2.1 q13.2.2.2.2.2.1 q13.2.2.2.2.2.2.1 q13.2.2.2.2.2.2.2 sF sk sm st se fi gr br pu nr) H := hP
              have hD : va_D AA (w_grinder cI cC gh a q11.1 q11.2.1 q11.2.2.1 q11.2.2.2.1 d0 q12.1 q12.2 k0 d1 w1 g1 k1 q13.1 q13.2.1 q13.2.2.1 q13.2.2.2.1 q13.2.2.2.2.1 q13.2.2.2.2.2.1 q13.2.2.2.2.2.2.1 q13.2.2.2.2.2.2.2 sF sk sm st se fi gr br pu nr) := hD
              refine lv_aload_n hx hb dX1_grindBy_119 rfl (lv_at hl 2 rfl) ?_
              refine lv_dup hx hb dX1_grindBy_120 rfl ?_
              refine va_get hx hb hts n1_ hown hK hP 0 rfl rfl 9 (Nat.le_of_ble_eq_true rfl) k12_ (fun _ h => h) rfl dX1_grindBy_121 ?_
              refine lv_iload_n hx hb dX1_grindBy_124 rfl (lv_at hl 4 rfl) ?_
              refine lv_iadd hx hb dX1_grindBy_125 ?_
              refine lv_topi (fun v14 ev14 => ?_)
              replace hf := lt_e ev14 hf
              refine va_put hx hb hts n1_ tyX1 tyX1_ok nmX1 hown hK hP hD hS 0 rfl rfl 9 (Nat.le_of_ble_eq_true rfl) k12_ (fun _ h => h) rfl (v := .int v14) (tyX1_ok 9 (Nat.le_of_ble_eq_true rfl)) rfl rfl (Nat.le_of_ble_eq_true rfl) dX1_grindBy_126 (fun H locs hP hD hS => ?_)
              have hP : va_P D vwCl (w_grinder cI cC gh a q11.1 q11.2.1 q11.2.2.1 q11.2.2.2.1 d0 q12.1 q12.2 k0 d1 w1 g1 k1 q13.1 q13.2.1 q13.2.2.1 q13.2.2.2.1 q13.2.2.2.2.1 q13.2.2.2.2.2.1 q13.2.2.2.2.2.2.1 q13.2.2.2.2.2.2.2 sF sk sm st se fi v14 br pu nr) H := hP
              have hD : va_D AA (w_grinder cI cC gh a q11.1 q11.2.1 q11.2.2.1 q11.2.2.2.1 d0 q12.1 q12.2 k0 d1 w1 g1 k1 q13.1 q13.2.1 q13.2.2.1 q13.2.2.2.1 q13.2.2.2.2.1 q13.2.2.2.2.2.1 q13.2.2.2.2.2.2.1 q13.2.2.2.2.2.2.2 sF sk sm st se fi v14 br pu nr) := hD
              refine lv_aload_n hx hb dX1_grindBy_129 rfl (lv_at hl 2 rfl) ?_
              refine lv_iload_n hx hb dX1_grindBy_130 rfl (lv_at hl 4 rfl) ?_
              refine lv_bipush (v := (9 : Int32)) hx hb dX1_grindBy_131 (by decide) ?_
              refine lv_iadd hx hb dX1_grindBy_133 ?_
              refine lv_bipush (v := (10 : Int32)) hx hb dX1_grindBy_134 (by decide) ?_
              refine lv_idiv hx hb dX1_grindBy_136 (by decide) ?_
              obtain ⟨q15, hq15, hf⟩ := ob hf
              refine cl_VV (As := [.int ((x2 + (9 : Int32)) / (10 : Int32))]) (rest := []) hF hP hD hS (c_X1_passSeconds gh a ((x2 + (9 : Int32)) / (10 : Int32)) q11.1 q11.2.1 q11.2.2.1 q11.2.2.2.1 d0 q12.1 q12.2 k0 d1 w1 g1 k1 q13.1 q13.2.1 q13.2.2.1 q13.2.2.2.1 q13.2.2.2.2.1 q13.2.2.2.2.2.1 q13.2.2.2.2.2.2.1 q13.2.2.2.2.2.2.2 sF sk sm st se fi v14 br pu nr q15 hq15) (cwV 1 hts gX1_grindBy_X1_passSeconds rfl rfl rfl (by decide +kernel) ⟨(Nat.le_of_ble_eq_true rfl), (Nat.le_of_ble_eq_true rfl)⟩) [0, 1, 2, 3, 4, 5, 6, 7, 8, 9, 10, 11, 12, 13, 14, 15] rfl (by decide) (va_recv hK hP (ci := 1) (q0 := 0) rfl rfl) rfl rfl hl.1 (Nat.le_of_ble_eq_true rfl) dX1_grindBy_137 ⟨Nat.zero_le _, Nat.zero_le _⟩ (hA2 [gh, (a 1), (a 2), (a 3), (a 4), (a 5), (a 6), (a 7), (a 8), (a 9), (a 10), (a 11), (a 12), (a 13), (a 14), (a 15)] rfl rfl) (fun H locs hP hD hS => ?_)
              have hP : va_P D vwCl (w_grinder cI cC gh a q11.1 q11.2.1 q11.2.2.1 q11.2.2.2.1 d0 q15.1 q12.2 k0 d1 q15.2.1 g1 k1 q13.1 q13.2.1 q13.2.2.1 q13.2.2.2.1 q13.2.2.2.2.1 q13.2.2.2.2.2.1 q13.2.2.2.2.2.2.1 q13.2.2.2.2.2.2.2 sF sk sm st q15.2.2 fi v14 br pu nr) H := hP
              have hD : va_D AA (w_grinder cI cC gh a q11.1 q11.2.1 q11.2.2.1 q11.2.2.2.1 d0 q15.1 q12.2 k0 d1 q15.2.1 g1 k1 q13.1 q13.2.1 q13.2.2.1 q13.2.2.2.1 q13.2.2.2.2.1 q13.2.2.2.2.2.1 q13.2.2.2.2.2.2.1 q13.2.2.2.2.2.2.2 sF sk sm st q15.2.2 fi v14 br pu nr) := hD
              refine lv_iload_n hx hb dX1_grindBy_140 rfl (lv_at hl 1 rfl) ?_
              obtain rfl := Option.some.inj hf
              exact ret 141 ls _ H locs dX1_grindBy_141 rfl rfl hP hS
            · replace hf := ie hc9 hf
              refine cl_AV (As := [.int x1]) (rest := []) hF hP hD (c_X1_burrNumbered_1 gh a x1 pA pM pn pt d0 w0 g0 k0 d1 w1 g1 k1 qA qM qn qt uA uM un ut sF sk sm st se fi gr br pu nr hc9) (cwV 1 hts gX1_grindBy_X1_burrNumbered rfl rfl rfl (by decide +kernel) ⟨(Nat.le_of_ble_eq_true rfl), (Nat.le_of_ble_eq_true rfl)⟩) [0, 1, 2, 3, 4, 5, 6, 7, 8, 9, 10, 11, 12, 13, 14, 15] rfl (by decide) (va_recv hK hP (ci := 1) (q0 := 0) rfl rfl) rfl rfl hl.1 (Nat.le_of_ble_eq_true rfl) dX1_grindBy_77 ⟨Nat.zero_le _, Nat.zero_le _⟩ ?_
              refine lv_astore (lv' := [(4, .ref (a 6)), (3, .int v7), (0, .ref gh), (1, .int x1), (2, .int x2)]) hx hb dX1_grindBy_80 hl (by decide) rfl (fun ls hl => ?_)
              refine lv_aload_n hx hb dX1_grindBy_82 rfl (lv_at hl 2 rfl) ?_
              refine va_get hx hb hts n1_ hown hK hP 0 rfl rfl 0 (Nat.le_of_ble_eq_true rfl) k2_ (fun _ h => h) rfl dX1_grindBy_83 ?_
              refine lv_iload_n hx hb dX1_grindBy_86 rfl (lv_at hl 4 rfl) ?_
              refine lv_iload_n hx hb dX1_grindBy_87 rfl (lv_at hl 3 rfl) ?_
              refine lv_aload hx hb dX1_grindBy_88 (lv_at hl 0 rfl) ?_
              obtain ⟨q16, hq16, hf⟩ := ob hf
              refine cl_RV (As := []) (rest := [.int x1, .int x2, .ref (a 1)]) hF hP hD (c_X0_gap (a 6) d1 w1 g1 k1 q16 hq16) (cwV 0 hts gX1_grindBy_X0_gap rfl rfl rfl (by decide +kernel) ⟨(Nat.le_of_ble_eq_true rfl), (Nat.le_of_ble_eq_true rfl)⟩) [6] rfl (by decide) (va_recv hK hP (ci := 0) (q0 := 6) rfl rfl) rfl rfl hl.1 (Nat.le_of_ble_eq_true rfl) dX1_grindBy_90 ⟨Nat.zero_le _, Nat.zero_le _⟩ ?_
              refine lv_aload_n hx hb dX1_grindBy_93 rfl (lv_at hl 2 rfl) ?_
              refine va_get hx hb hts n1_ hown hK hP 0 rfl rfl 3 (Nat.le_of_ble_eq_true rfl) k4_ (fun _ h => h) rfl dX1_grindBy_94 ?_
              obtain ⟨q17, hq17, hf⟩ := ob hf
              refine cl_VV (As := [.int x2, .int x1, .int q16, .ref (a 7)]) (rest := []) hF hP hD hS (c_X3_letOut (a 1) (a 2) (a 3) (a 4) (a 7) (a 8) (a 9) 6 106 x2 x1 q16 pA pM pn pt qA qM qn qt q17 hq17) (cwV 4 hts gX1_grindBy_X3_letOut rfl rfl rfl (by decide +kernel) ⟨(Nat.le_of_ble_eq_true rfl), (Nat.le_of_ble_eq_true rfl)⟩) [1, 2, 3, 4, 7, 8, 9] rfl (by decide) (va_recv hK hP (ci := 3) (q0 := 1) rfl rfl) rfl rfl hl.1 (Nat.le_of_ble_eq_true rfl) dX1_grindBy_97 ⟨Nat.zero_le _, Nat.zero_le _⟩ (hA2 [(a 1), (a 2), (a 3), (a 4), (a 7), (a 8), (a 9)] rfl rfl) (fun H locs hP hD hS => ?_)
              have hP : va_P D vwCl (w_grinder cI cC gh a q17.1 q17.2.1 q17.2.2.1 q17.2.2.2.1 d0 w0 g0 k0 d1 w1 g1 k1 q17.2.2.2.2.1 q17.2.2.2.2.2.1 q17.2.2.2.2.2.2.1 q17.2.2.2.2.2.2.2 uA uM un ut sF sk sm st se fi gr br pu nr) H := hP
              have hD : va_D AA (w_grinder cI cC gh a q17.1 q17.2.1 q17.2.2.1 q17.2.2.2.1 d0 w0 g0 k0 d1 w1 g1 k1 q17.2.2.2.2.1 q17.2.2.2.2.2.1 q17.2.2.2.2.2.2.1 q17.2.2.2.2.2.2.2 uA uM un ut sF sk sm st se fi gr br pu nr) := hD
              refine lv_aload hx hb dX1_grindBy_100 (lv_at hl 0 rfl) ?_
              refine lv_iload_n hx hb dX1_grindBy_102 rfl (lv_at hl 4 rfl) ?_
              obtain ⟨q18, hq18, hf⟩ := ob hf
              refine cl_VV (As := [.int x2]) (rest := []) hF hP hD hS (c_X0_warmByGrinding (a 6) x2 d1 w1 g1 k1 q18 hq18) (cwV 1 hts gX1_grindBy_X0_warmByGrinding rfl rfl rfl (by decide +kernel) ⟨(Nat.le_of_ble_eq_true rfl), (Nat.le_of_ble_eq_true rfl)⟩) [6] rfl (by decide) (va_recv hK hP (ci := 0) (q0 := 6) rfl rfl) rfl rfl hl.1 (Nat.le_of_ble_eq_true rfl) dX1_grindBy_103 ⟨Nat.zero_le _, Nat.zero_le _⟩ (hA2 [(a 6)] rfl rfl) (fun H locs hP hD hS => ?_)
              have hP : va_P D vwCl (w_grinder cI cC gh a q17.1 q17.2.1 q17.2.2.1 q17.2.2.2.1 d0 w0 g0 k0 d1 q18.1 q18.2 k1 q17.2.2.2.2.1 q17.2.2.2.2.2.1 q17.2.2.2.2.2.2.1 q17.2.2.2.2.2.2.2 uA uM un ut sF sk sm st se fi gr br pu nr) H := hP
              have hD : va_D AA (w_grinder cI cC gh a q17.1 q17.2.1 q17.2.2.1 q17.2.2.2.1 d0 w0 g0 k0 d1 q18.1 q18.2 k1 q17.2.2.2.2.1 q17.2.2.2.2.2.1 q17.2.2.2.2.2.2.1 q17.2.2.2.2.2.2.2 uA uM un ut sF sk sm st se fi gr br pu nr) := hD
              refine lv_aload_n hx hb dX1_grindBy_106 rfl (lv_at hl 2 rfl) ?_
              refine va_get hx hb hts n1_ hown hK hP 0 rfl rfl 3 (Nat.le_of_ble_eq_true rfl) k4_ (fun _ h => h) rfl dX1_grindBy_107 ?_
              refine lv_iload_n hx hb dX1_grindBy_110 rfl (lv_at hl 1 rfl) ?_
              refine lv_iconst (v := (0 : Int32)) hx hb dX1_grindBy_111 (by decide) ?_
              refine lv_aload_n hx hb dX1_grindBy_112 rfl (lv_at hl 2 rfl) ?_
              refine va_get hx hb hts n1_ hown hK hP 0 rfl rfl 4 (Nat.le_of_ble_eq_true rfl) k10_ (fun _ h => h) rfl dX1_grindBy_113 ?_
              obtain ⟨q19, hq19, hf⟩ := ob hf
              refine cl_VV (As := [.int v7, .int (0 : Int32), .ref (a 10)]) (rest := []) hF hP hD hS (c_X5_letOut (a 7) (a 8) (a 9) (a 10) (a 11) (a 12) 106 400 v7 (0 : Int32) q17.2.2.2.2.1 q17.2.2.2.2.2.1 q17.2.2.2.2.2.2.1 q17.2.2.2.2.2.2.2 uA uM un ut q19 hq19) (cwV 3 hts gX1_grindBy_X5_letOut rfl rfl rfl (by decide +kernel) ⟨(Nat.le_of_ble_eq_true rfl), (Nat.le_of_ble_eq_true rfl)⟩) [7, 8, 9, 10, 11, 12] rfl (by decide) (va_recv hK hP (ci := 5) (q0 := 7) rfl rfl) rfl rfl hl.1 (Nat.le_of_ble_eq_true rfl) dX1_grindBy_116 ⟨Nat.zero_le _, Nat.zero_le _⟩ (hA2 [(a 7), (a 8), (a 9), (a 10), (a 11), (a 12)] rfl rfl) (fun H locs hP hD hS => ?_)
              have hP : va_P D vwCl (w_grinder cI cC gh a q17.1 q17.2.1 q17.2.2.1 q17.2.2.2.1 d0 w0 g0 k0 d1 q18.1 q18.2 k1 q19.1 q19.2.1 q19.2.2.1 q19.2.2.2.1 q19.2.2.2.2.1 q19.2.2.2.2.2.1 q19.2.2.2.2.2.2.1 q19.2.2.2.2.2.2.2 sF sk sm st se fi gr br pu nr) H := hP
              have hD : va_D AA (w_grinder cI cC gh a q17.1 q17.2.1 q17.2.2.1 q17.2.2.2.1 d0 w0 g0 k0 d1 q18.1 q18.2 k1 q19.1 q19.2.1 q19.2.2.1 q19.2.2.2.1 q19.2.2.2.2.1 q19.2.2.2.2.2.1 q19.2.2.2.2.2.2.1 q19.2.2.2.2.2.2.2 sF sk sm st se fi gr br pu nr) := hD
              refine lv_aload_n hx hb dX1_grindBy_119 rfl (lv_at hl 2 rfl) ?_
              refine lv_dup hx hb dX1_grindBy_120 rfl ?_
              refine va_get hx hb hts n1_ hown hK hP 0 rfl rfl 9 (Nat.le_of_ble_eq_true rfl) k12_ (fun _ h => h) rfl dX1_grindBy_121 ?_
              refine lv_iload_n hx hb dX1_grindBy_124 rfl (lv_at hl 4 rfl) ?_
              refine lv_iadd hx hb dX1_grindBy_125 ?_
              refine lv_topi (fun v20 ev20 => ?_)
              replace hf := lt_e ev20 hf
              refine va_put hx hb hts n1_ tyX1 tyX1_ok nmX1 hown hK hP hD hS 0 rfl rfl 9 (Nat.le_of_ble_eq_true rfl) k12_ (fun _ h => h) rfl (v := .int v20) (tyX1_ok 9 (Nat.le_of_ble_eq_true rfl)) rfl rfl (Nat.le_of_ble_eq_true rfl) dX1_grindBy_126 (fun H locs hP hD hS => ?_)
              have hP : va_P D vwCl (w_grinder cI cC gh a q17.1 q17.2.1 q17.2.2.1 q17.2.2.2.1 d0 w0 g0 k0 d1 q18.1 q18.2 k1 q19.1 q19.2.1 q19.2.2.1 q19.2.2.2.1 q19.2.2.2.2.1 q19.2.2.2.2.2.1 q19.2.2.2.2.2.2.1 q19.2.2.2.2.2.2.2 sF sk sm st se fi v20 br pu nr) H := hP
              have hD : va_D AA (w_grinder cI cC gh a q17.1 q17.2.1 q17.2.2.1 q17.2.2.2.1 d0 w0 g0 k0 d1 q18.1 q18.2 k1 q19.1 q19.2.1 q19.2.2.1 q19.2.2.2.1 q19.2.2.2.2.1 q19.2.2.2.2.2.1 q19.2.2.2.2.2.2.1 q19.2.2.2.2.2.2.2 sF sk sm st se fi v20 br pu nr) := hD
              refine lv_aload_n hx hb dX1_grindBy_129 rfl (lv_at hl 2 rfl) ?_
              refine lv_iload_n hx hb dX1_grindBy_130 rfl (lv_at hl 4 rfl) ?_
              refine lv_bipush (v := (9 : Int32)) hx hb dX1_grindBy_131 (by decide) ?_
              refine lv_iadd hx hb dX1_grindBy_133 ?_
              refine lv_bipush (v := (10 : Int32)) hx hb dX1_grindBy_134 (by decide) ?_
              refine lv_idiv hx hb dX1_grindBy_136 (by decide) ?_
              obtain ⟨q21, hq21, hf⟩ := ob hf
              refine cl_VV (As := [.int ((x2 + (9 : Int32)) / (10 : Int32))]) (rest := []) hF hP hD hS (c_X1_passSeconds gh a ((x2 + (9 : Int32)) / (10 : Int32)) q17.1 q17.2.1 q17.2.2.1 q17.2.2.2.1 d0 w0 g0 k0 d1 q18.1 q18.2 k1 q19.1 q19.2.1 q19.2.2.1 q19.2.2.2.1 q19.2.2.2.2.1 q19.2.2.2.2.2.1 q19.2.2.2.2.2.2.1 q19.2.2.2.2.2.2.2 sF sk sm st se fi v20 br pu nr q21 hq21) (cwV 1 hts gX1_grindBy_X1_passSeconds rfl rfl rfl (by decide +kernel) ⟨(Nat.le_of_ble_eq_true rfl), (Nat.le_of_ble_eq_true rfl)⟩) [0, 1, 2, 3, 4, 5, 6, 7, 8, 9, 10, 11, 12, 13, 14, 15] rfl (by decide) (va_recv hK hP (ci := 1) (q0 := 0) rfl rfl) rfl rfl hl.1 (Nat.le_of_ble_eq_true rfl) dX1_grindBy_137 ⟨Nat.zero_le _, Nat.zero_le _⟩ (hA2 [gh, (a 1), (a 2), (a 3), (a 4), (a 5), (a 6), (a 7), (a 8), (a 9), (a 10), (a 11), (a 12), (a 13), (a 14), (a 15)] rfl rfl) (fun H locs hP hD hS => ?_)
              have hP : va_P D vwCl (w_grinder cI cC gh a q17.1 q17.2.1 q17.2.2.1 q17.2.2.2.1 d0 q21.1 g0 k0 d1 q21.2.1 q18.2 k1 q19.1 q19.2.1 q19.2.2.1 q19.2.2.2.1 q19.2.2.2.2.1 q19.2.2.2.2.2.1 q19.2.2.2.2.2.2.1 q19.2.2.2.2.2.2.2 sF sk sm st q21.2.2 fi v20 br pu nr) H := hP
              have hD : va_D AA (w_grinder cI cC gh a q17.1 q17.2.1 q17.2.2.1 q17.2.2.2.1 d0 q21.1 g0 k0 d1 q21.2.1 q18.2 k1 q19.1 q19.2.1 q19.2.2.1 q19.2.2.2.1 q19.2.2.2.2.1 q19.2.2.2.2.2.1 q19.2.2.2.2.2.2.1 q19.2.2.2.2.2.2.2 sF sk sm st q21.2.2 fi v20 br pu nr) := hD
              refine lv_iload_n hx hb dX1_grindBy_140 rfl (lv_at hl 1 rfl) ?_
              obtain rfl := Option.some.inj hf
              exact ret 141 ls _ H locs dX1_grindBy_141 rfl rfl hP hS
          · replace hf := ie hc8 hf
            refine lv_ldc hx hb hown k11_ dX1_grindBy_72 ?_
            obtain rfl := Option.some.inj hf
            exact ret 74 ls _ H locs dX1_grindBy_74 rfl rfl hP hS
        · replace hf := ie hc6 hf
          refine lv_ldc hx hb hown k3_ dX1_grindBy_33 ?_
          obtain rfl := Option.some.inj hf
          exact ret 35 ls _ H locs dX1_grindBy_35 rfl rfl hP hS
      · replace hf := ie hc4 hf
        refine lv_ldc hx hb hown k1_ dX1_grindBy_19 ?_
        obtain rfl := Option.some.inj hf
        exact ret 21 ls _ H locs dX1_grindBy_21 rfl rfl hP hS
noncomputable def f_X1_turnDial (x1 : Int32) (x2 : Int32) (d0 : Int32) (d1 : Int32) : Option (Int32 × Int32 × Int32) := (f_X7_isZeroOrOne x1).bind fun q1 => (if q1 = 0 then some ((-1000001 : Int32), d0, d1) else (if x2 < (1 : Int32) then some ((-1000001 : Int32), d0, d1) else (if x2 ≤ (60 : Int32) then (if x1 = 0 then some (d0, x2, d1) else some (d1, d0, x2)) else some ((-1000001 : Int32), d0, d1))))
abbrev rmX1_turnDial : Room := { frames := 2, cells := 0, slots := 0, locals := 21 }
set_option maxHeartbeats 4000000 in
set_option maxRecDepth 100000 in
theorem c_X1_turnDial (gh : Nat) (a : Nat → Nat) (x1 : Int32) (x2 : Int32) (pA : Nat → Int32) (pM : Nat → Int32) (pn : Int32) (pt : Int32) (d0 : Int32) (w0 : Int32) (g0 : Int32) (k0 : Int32) (d1 : Int32) (w1 : Int32) (g1 : Int32) (k1 : Int32) (qA : Nat → Int32) (qM : Nat → Int32) (qn : Int32) (qt : Int32) (uA : Nat → Int32) (uM : Nat → Int32) (un : Int32) (ut : Int32) (sF : Nat → Int32) (sk : Int32) (sm : Int32) (st : Nat → Int32) (se : Int32) (fi : Int32) (gr : Int32) (br : Int32) (pu : Int32) (nr : Int32) (R : Int32 × Int32 × Int32) (hf : f_X1_turnDial x1 x2 d0 d1 = some R) : WrI l yX1_turnDial wsX1_turnDial rmX1_turnDial D cI cC (w_grinder cI cC gh a pA pM pn pt d0 w0 g0 k0 d1 w1 g1 k1 qA qM qn qt uA uM un ut sF sk sm st se fi gr br pu nr) (w_grinder cI cC gh a pA pM pn pt R.2.1 w0 g0 k0 R.2.2 w1 g1 k1 qA qM qn qt uA uM un ut sF sk sm st se fi gr br pu nr) [.ref gh, .int x1, .int x2] R.1 := by
  refine en_W (cc := cX1_turnDial) (n := 5) (by decide) rfl (Nat.le_of_ble_eq_true rfl) ?_
  intro p e s m args below meth c Q AA ls hx hb hml hown hts hK hN hP hD hS hl ret
  have hown : s.vm.findClass RX1 = some m.cls := hown
  have hF : FX p m c cX1_turnDial 5 s args wsX1_turnDial RX1 D cI cC := ⟨⟨hx, hb, hml, hown, hts⟩, hK, hN⟩
  have hl : lv_has ls 5 [(0, .ref gh), (1, .int x1), (2, .int x2)] := hl
  have k1_ := hts (.constant RX1 93 (-1000001)) (List.mem_of_getElem? (i := 1) rfl)
  have k2_ := hts (.static yX7_isZeroOrOne) (List.mem_of_getElem? (i := 2) rfl)
  have k3_ := hts (.initialized RX7) (List.mem_of_getElem? (i := 3) rfl)
  have n0_ : ∀ w ∈ wsX00, w ∈ wsX1_turnDial := fun _ h => List.mem_cons_of_mem _ (List.mem_append_left _ (List.mem_append_right _ h))
  rw [f_X1_turnDial] at hf
  obtain ⟨H, hH⟩ : ∃ z : Heap, z = s.heap := ⟨_, rfl⟩
  obtain ⟨locs, hL⟩ : ∃ z : List Loc, z = [] := ⟨_, rfl⟩
  replace hP := hH ▸ hP
  replace hS : va_S AA s.heap H locs := by rw [hH, hL]; exact hS
  suffices hgoal : W p l e rmX1_turnDial s m args below meth c H locs 0 0 Q (F0 m 0 ls []) by rw [hH, hL] at hgoal; exact hgoal
  clear hH hL
  refine lv_iload_n hx hb dX1_turnDial_0 rfl (lv_at hl 1 rfl) ?_
  obtain ⟨q1, hq1, hf⟩ := ob hf
  refine cl_RN (As := [.int x1]) (rest := []) hF hP hD (c_X7_isZeroOrOne x1 q1 hq1) ⟨va_cnB 1 hts gX1_turnDial_X7_isZeroOrOne_n89 rfl rfl rfl (hN.nw 25 rfl) k3_ (by decide +kernel) ⟨(Nat.le_of_ble_eq_true rfl), (Nat.le_of_ble_eq_true rfl)⟩, k2_, trivial⟩ [] rfl (by decide) rfl rfl hl.1 (Nat.le_of_ble_eq_true rfl) dX1_turnDial_1 ⟨Nat.zero_le _, Nat.zero_le _⟩ ?_
  refine lv_if_eq (tgt := 18) hx hb dX1_turnDial_4 (by decide) (fun hc2 => ?_) (fun hc2 => ?_)
  · replace hf := it hc2 hf
    refine lv_ldc hx hb hown k1_ dX1_turnDial_18 ?_
    obtain rfl := Option.some.inj hf
    exact ret 20 ls _ H locs dX1_turnDial_20 rfl rfl hP hS
  · replace hf := ie hc2 hf
    refine lv_iload_n hx hb dX1_turnDial_7 rfl (lv_at hl 2 rfl) ?_
    refine lv_iconst (v := (1 : Int32)) hx hb dX1_turnDial_8 (by decide) ?_
    refine lv_icmp_lt (tgt := 18) hx hb dX1_turnDial_9 (by decide) (fun hc3 => ?_) (fun hc3 => ?_)
    · replace hf := it hc3 hf
      refine lv_ldc hx hb hown k1_ dX1_turnDial_18 ?_
      obtain rfl := Option.some.inj hf
      exact ret 20 ls _ H locs dX1_turnDial_20 rfl rfl hP hS
    · replace hf := ie hc3 hf
      refine lv_iload_n hx hb dX1_turnDial_12 rfl (lv_at hl 2 rfl) ?_
      refine lv_bipush (v := (60 : Int32)) hx hb dX1_turnDial_13 (by decide) ?_
      refine lv_icmp_le (tgt := 21) hx hb dX1_turnDial_15 (by decide) (fun hc4 => ?_) (fun hc4 => ?_)
      · replace hf := it hc4 hf
        refine lv_aload_n hx hb dX1_turnDial_21 rfl (lv_at hl 0 rfl) ?_
        refine lv_iload_n hx hb dX1_turnDial_22 rfl (lv_at hl 1 rfl) ?_
        by_cases hc5 : x1 = 0
        · replace hf := it hc5 hf
          refine cl_AV (As := [.int x1]) (rest := []) hF hP hD (c_X1_burrNumbered_0 gh a x1 pA pM pn pt d0 w0 g0 k0 d1 w1 g1 k1 qA qM qn qt uA uM un ut sF sk sm st se fi gr br pu nr hc5) (cwV 1 hts gX1_turnDial_X1_burrNumbered rfl rfl rfl (by decide +kernel) ⟨(Nat.le_of_ble_eq_true rfl), (Nat.le_of_ble_eq_true rfl)⟩) [0, 1, 2, 3, 4, 5, 6, 7, 8, 9, 10, 11, 12, 13, 14, 15] rfl (by decide) (va_recv hK hP (ci := 1) (q0 := 0) rfl rfl) rfl rfl hl.1 (Nat.le_of_ble_eq_true rfl) dX1_turnDial_23 ⟨Nat.zero_le _, Nat.zero_le _⟩ ?_
          refine lv_astore_n (lv' := [(3, .ref (a 5)), (0, .ref gh), (1, .int x1), (2, .int x2)]) hx hb dX1_turnDial_26 rfl hl (by decide) rfl (fun ls hl => ?_)
          refine lv_aload_n hx hb dX1_turnDial_27 rfl (lv_at hl 0 rfl) ?_
          refine va_getN hx hb hts n0_ hown hK hP 5 rfl rfl 0 (Nat.le_of_ble_eq_true rfl) (hN.get 4 rfl) (fun _ h => h) rfl dX1_turnDial_28 ?_
          refine lv_istore (lv' := [(4, .int d0), (3, .ref (a 5)), (0, .ref gh), (1, .int x1), (2, .int x2)]) hx hb dX1_turnDial_31 hl (by decide) rfl (fun ls hl => ?_)
          refine lv_aload_n hx hb dX1_turnDial_33 rfl (lv_at hl 1 rfl) ?_
          refine lv_iload_n hx hb dX1_turnDial_34 rfl (lv_at hl 4 rfl) ?_
          refine va_putN hx hb hts n0_ tyX0 tyX0_ok nmX0 hown hK hP hD hS 5 rfl rfl 0 (Nat.le_of_ble_eq_true rfl) (hN.get 4 rfl) (fun _ h => h) rfl (v := .int x2) (tyX0_ok 0 (Nat.le_of_ble_eq_true rfl)) rfl rfl (Nat.le_of_ble_eq_true rfl) dX1_turnDial_35 (fun H locs hP hD hS => ?_)
          have hP : va_P D vwCl (w_grinder cI cC gh a pA pM pn pt x2 w0 g0 k0 d1 w1 g1 k1 qA qM qn qt uA uM un ut sF sk sm st se fi gr br pu nr) H := hP
          have hD : va_D AA (w_grinder cI cC gh a pA pM pn pt x2 w0 g0 k0 d1 w1 g1 k1 qA qM qn qt uA uM un ut sF sk sm st se fi gr br pu nr) := hD
          refine lv_iload hx hb dX1_turnDial_38 (lv_at hl 0 rfl) ?_
          obtain rfl := Option.some.inj hf
          exact ret 40 ls _ H locs dX1_turnDial_40 rfl rfl hP hS
        · replace hf := ie hc5 hf
          refine cl_AV (As := [.int x1]) (rest := []) hF hP hD (c_X1_burrNumbered_1 gh a x1 pA pM pn pt d0 w0 g0 k0 d1 w1 g1 k1 qA qM qn qt uA uM un ut sF sk sm st se fi gr br pu nr hc5) (cwV 1 hts gX1_turnDial_X1_burrNumbered rfl rfl rfl (by decide +kernel) ⟨(Nat.le_of_ble_eq_true rfl), (Nat.le_of_ble_eq_true rfl)⟩) [0, 1, 2, 3, 4, 5, 6, 7, 8, 9, 10, 11, 12, 13, 14, 15] rfl (by decide) (va_recv hK hP (ci := 1) (q0 := 0) rfl rfl) rfl rfl hl.1 (Nat.le_of_ble_eq_true rfl) dX1_turnDial_23 ⟨Nat.zero_le _, Nat.zero_le _⟩ ?_
          refine lv_astore_n (lv' := [(3, .ref (a 6)), (0, .ref gh), (1, .int x1), (2, .int x2)]) hx hb dX1_turnDial_26 rfl hl (by decide) rfl (fun ls hl => ?_)
          refine lv_aload_n hx hb dX1_turnDial_27 rfl (lv_at hl 0 rfl) ?_
          refine va_getN hx hb hts n0_ hown hK hP 6 rfl rfl 0 (Nat.le_of_ble_eq_true rfl) (hN.get 4 rfl) (fun _ h => h) rfl dX1_turnDial_28 ?_
          refine lv_istore (lv' := [(4, .int d1), (3, .ref (a 6)), (0, .ref gh), (1, .int x1), (2, .int x2)]) hx hb dX1_turnDial_31 hl (by decide) rfl (fun ls hl => ?_)
          refine lv_aload_n hx hb dX1_turnDial_33 rfl (lv_at hl 1 rfl) ?_
          refine lv_iload_n hx hb dX1_turnDial_34 rfl (lv_at hl 4 rfl) ?_
          refine va_putN hx hb hts n0_ tyX0 tyX0_ok nmX0 hown hK hP hD hS 6 rfl rfl 0 (Nat.le_of_ble_eq_true rfl) (hN.get 4 rfl) (fun _ h => h) rfl (v := .int x2) (tyX0_ok 0 (Nat.le_of_ble_eq_true rfl)) rfl rfl (Nat.le_of_ble_eq_true rfl) dX1_turnDial_35 (fun H locs hP hD hS => ?_)
          have hP : va_P D vwCl (w_grinder cI cC gh a pA pM pn pt d0 w0 g0 k0 x2 w1 g1 k1 qA qM qn qt uA uM un ut sF sk sm st se fi gr br pu nr) H := hP
          have hD : va_D AA (w_grinder cI cC gh a pA pM pn pt d0 w0 g0 k0 x2 w1 g1 k1 qA qM qn qt uA uM un ut sF sk sm st se fi gr br pu nr) := hD
          refine lv_iload hx hb dX1_turnDial_38 (lv_at hl 0 rfl) ?_
          obtain rfl := Option.some.inj hf
          exact ret 40 ls _ H locs dX1_turnDial_40 rfl rfl hP hS
      · replace hf := ie hc4 hf
        refine lv_ldc hx hb hown k1_ dX1_turnDial_18 ?_
        obtain rfl := Option.some.inj hf
        exact ret 20 ls _ H locs dX1_turnDial_20 rfl rfl hP hS
noncomputable def f_X1_judge_0 (x1 : Int32) (d0 : Int32) (k0 : Int32) (st : Nat → Int32) (nr : Int32) : Option (Int32 × Int32 × Int32) := lt ((if 0 ≤ (x1 - (st (0 : Int32).toNatClampNeg)) then (x1 - (st (0 : Int32).toNatClampNeg)) else 0 - (x1 - (st (0 : Int32).toNatClampNeg)))) fun v1 => (if (st (1 : Int32).toNatClampNeg) < v1 then (if (st (5 : Int32).toNatClampNeg) = (1 : Int32) then (f_X0_correctBy x1 (st (0 : Int32).toNatClampNeg) d0 k0).bind fun q4 => some (q4.1, q4.2, nr) else some (d0, k0, nr)) else lt ((nr + (1 : Int32))) fun v5 => some (d0, k0, v5))
abbrev rmX1_judge_0 : Room := { frames := 2, cells := 0, slots := 0, locals := 44 }
set_option maxHeartbeats 4000000 in
set_option maxRecDepth 100000 in
theorem c_X1_judge_0 (gh : Nat) (a : Nat → Nat) (x1 : Int32) (pA : Nat → Int32) (pM : Nat → Int32) (pn : Int32) (pt : Int32) (d0 : Int32) (w0 : Int32) (g0 : Int32) (k0 : Int32) (d1 : Int32) (w1 : Int32) (g1 : Int32) (k1 : Int32) (qA : Nat → Int32) (qM : Nat → Int32) (qn : Int32) (qt : Int32) (uA : Nat → Int32) (uM : Nat → Int32) (un : Int32) (ut : Int32) (sF : Nat → Int32) (sk : Int32) (sm : Int32) (st : Nat → Int32) (se : Int32) (fi : Int32) (gr : Int32) (br : Int32) (pu : Int32) (nr : Int32) (R : Int32 × Int32 × Int32) (hf : f_X1_judge_0 x1 d0 k0 st nr = some R) : WrV l yX1_judge wsX1_judge rmX1_judge_0 D cI cC (w_grinder cI cC gh a pA pM pn pt d0 w0 g0 k0 d1 w1 g1 k1 qA qM qn qt uA uM un ut sF sk sm st se fi gr br pu nr) (w_grinder cI cC gh a pA pM pn pt R.1 w0 g0 R.2.1 d1 w1 g1 k1 qA qM qn qt uA uM un ut sF sk sm st se fi gr br pu R.2.2) [.ref gh, .int x1, .ref (a 5)] := by
  refine en_V (cc := cX1_judge) (n := 3) (by decide) rfl (Nat.le_of_ble_eq_true rfl) ?_
  intro p e s m args below meth c Q AA ls hx hb hml hown hts hK hN hP hD hS hl ret
  have hown : s.vm.findClass RX1 = some m.cls := hown
  have hF : FX p m c cX1_judge 3 s args wsX1_judge RX1 D cI cC := ⟨⟨hx, hb, hml, hown, hts⟩, hK, hN⟩
  have hl : lv_has ls 3 [(0, .ref gh), (1, .int x1), (2, .ref (a 5))] := hl
  have k1_ := hts (.fieldLink RX1 47 "DriftGrinders$Grinder" "settings" "[I") (List.mem_of_getElem? (i := 1) rfl)
  have k2_ := hts (.methodLink RX1 166 Lib.Math.abs.name) (List.mem_of_getElem? (i := 2) rfl)
  have k3_ := hts (.static Lib.Math.abs.name) (List.mem_of_getElem? (i := 3) rfl)
  have k4_ := hts (.initialized "java/lang/Math") (List.mem_of_getElem? (i := 4) rfl)
  have k5_ := hts (.code Lib.Math.abs.name Lib.Math.abs.code 1 (some .int)) (List.mem_of_getElem? (i := 5) rfl)
  have k6_ := hts (.fieldLink RX1 86 "DriftGrinders$Grinder" "shotsNearTarget" "I") (List.mem_of_getElem? (i := 6) rfl)
  have n1_ : ∀ w ∈ wsX10, w ∈ wsX1_judge := fun _ h => List.mem_cons_of_mem _ (List.mem_append_left _ (List.mem_append_right _ h))
  rw [f_X1_judge_0] at hf
  obtain ⟨H, hH⟩ : ∃ z : Heap, z = s.heap := ⟨_, rfl⟩
  obtain ⟨locs, hL⟩ : ∃ z : List Loc, z = [] := ⟨_, rfl⟩
  replace hP := hH ▸ hP
  replace hS : va_S AA s.heap H locs := by rw [hH, hL]; exact hS
  suffices hgoal : W p l e rmX1_judge_0 s m args below meth c H locs 0 0 Q (F0 m 0 ls []) by rw [hH, hL] at hgoal; exact hgoal
  clear hH hL
  refine lv_iload_n hx hb dX1_judge_0 rfl (lv_at hl 1 rfl) ?_
  refine lv_aload_n hx hb dX1_judge_1 rfl (lv_at hl 0 rfl) ?_
  refine va_get hx hb hts n1_ hown hK hP 0 rfl rfl 6 (Nat.le_of_ble_eq_true rfl) k1_ (fun _ h => h) rfl dX1_judge_2 ?_
  refine lv_iconst (v := (0 : Int32)) hx hb dX1_judge_5 (by decide) ?_
  refine va_iald hx hb hK hP 15 0 rfl rfl (show ¬ ((0 : Int32) < 0 ∨ 6 ≤ (0 : Int32).toNatClampNeg) by decide) dX1_judge_6 ?_
  refine lv_isub hx hb dX1_judge_7 ?_
  refine va_mabs hx hb (hml.trans hl.1.symm) hown k2_ k3_ k4_ k5_ (Nat.le_of_ble_eq_true rfl) (Nat.le_of_ble_eq_true rfl) (Nat.zero_le _) (Nat.zero_le _) dX1_judge_8 ?_
  refine lv_topi (fun v1 ev1 => ?_)
  replace hf := lt_e ev1 hf
  refine lv_aload_n hx hb dX1_judge_11 rfl (lv_at hl 0 rfl) ?_
  refine va_get hx hb hts n1_ hown hK hP 0 rfl rfl 6 (Nat.le_of_ble_eq_true rfl) k1_ (fun _ h => h) rfl dX1_judge_12 ?_
  refine lv_iconst (v := (1 : Int32)) hx hb dX1_judge_15 (by decide) ?_
  refine va_iald hx hb hK hP 15 0 rfl rfl (show ¬ ((1 : Int32) < 0 ∨ 6 ≤ (1 : Int32).toNatClampNeg) by decide) dX1_judge_16 ?_
  refine lv_icmp_gt (tgt := 33) hx hb dX1_judge_17 (by decide) (fun hc2 => ?_) (fun hc2 => ?_)
  · replace hf := it hc2 hf
    refine lv_aload_n hx hb dX1_judge_33 rfl (lv_at hl 0 rfl) ?_
    refine va_get hx hb hts n1_ hown hK hP 0 rfl rfl 6 (Nat.le_of_ble_eq_true rfl) k1_ (fun _ h => h) rfl dX1_judge_34 ?_
    refine lv_iconst (v := (5 : Int32)) hx hb dX1_judge_37 (by decide) ?_
    refine va_iald hx hb hK hP 15 0 rfl rfl (show ¬ ((5 : Int32) < 0 ∨ 6 ≤ (5 : Int32).toNatClampNeg) by decide) dX1_judge_38 ?_
    refine lv_iconst (v := (1 : Int32)) hx hb dX1_judge_39 (by decide) ?_
    refine lv_icmp_ne (tgt := 54) hx hb dX1_judge_40 (by decide) (fun hc3 => ?_) (fun hc3 => ?_)
    · replace hf := ie hc3 hf
      obtain rfl := Option.some.inj hf
      exact ret 54 ls H locs dX1_judge_54 hP hS
    · replace hf := it hc3 hf
      refine lv_aload_n hx hb dX1_judge_43 rfl (lv_at hl 2 rfl) ?_
      refine lv_iload_n hx hb dX1_judge_44 rfl (lv_at hl 1 rfl) ?_
      refine lv_aload_n hx hb dX1_judge_45 rfl (lv_at hl 0 rfl) ?_
      refine va_get hx hb hts n1_ hown hK hP 0 rfl rfl 6 (Nat.le_of_ble_eq_true rfl) k1_ (fun _ h => h) rfl dX1_judge_46 ?_
      refine lv_iconst (v := (0 : Int32)) hx hb dX1_judge_49 (by decide) ?_
      refine va_iald hx hb hK hP 15 0 rfl rfl (show ¬ ((0 : Int32) < 0 ∨ 6 ≤ (0 : Int32).toNatClampNeg) by decide) dX1_judge_50 ?_
      obtain ⟨q4, hq4, hf⟩ := ob hf
      refine cl_VV (As := [.int x1, .int (st (0 : Int32).toNatClampNeg)]) (rest := []) hF hP hD hS (c_X0_correctBy (a 5) x1 (st (0 : Int32).toNatClampNeg) d0 w0 g0 k0 q4 hq4) (cwV 2 hts gX1_judge_X0_correctBy rfl rfl rfl (by decide +kernel) ⟨(Nat.le_of_ble_eq_true rfl), (Nat.le_of_ble_eq_true rfl)⟩) [5] rfl (by decide) (va_recv hK hP (ci := 0) (q0 := 5) rfl rfl) rfl rfl hl.1 (Nat.le_of_ble_eq_true rfl) dX1_judge_51 ⟨Nat.zero_le _, Nat.zero_le _⟩ (hA2 [(a 5)] rfl rfl) (fun H locs hP hD hS => ?_)
      have hP : va_P D vwCl (w_grinder cI cC gh a pA pM pn pt q4.1 w0 g0 q4.2 d1 w1 g1 k1 qA qM qn qt uA uM un ut sF sk sm st se fi gr br pu nr) H := hP
      have hD : va_D AA (w_grinder cI cC gh a pA pM pn pt q4.1 w0 g0 q4.2 d1 w1 g1 k1 qA qM qn qt uA uM un ut sF sk sm st se fi gr br pu nr) := hD
      obtain rfl := Option.some.inj hf
      exact ret 54 ls H locs dX1_judge_54 hP hS
  · replace hf := ie hc2 hf
    refine lv_aload_n hx hb dX1_judge_20 rfl (lv_at hl 0 rfl) ?_
    refine lv_dup hx hb dX1_judge_21 rfl ?_
    refine va_get hx hb hts n1_ hown hK hP 0 rfl rfl 12 (Nat.le_of_ble_eq_true rfl) k6_ (fun _ h => h) rfl dX1_judge_22 ?_
    refine lv_iconst (v := (1 : Int32)) hx hb dX1_judge_25 (by decide) ?_
    refine lv_iadd hx hb dX1_judge_26 ?_
    refine lv_topi (fun v5 ev5 => ?_)
    replace hf := lt_e ev5 hf
    refine va_put hx hb hts n1_ tyX1 tyX1_ok nmX1 hown hK hP hD hS 0 rfl rfl 12 (Nat.le_of_ble_eq_true rfl) k6_ (fun _ h => h) rfl (v := .int v5) (tyX1_ok 12 (Nat.le_of_ble_eq_true rfl)) rfl rfl (Nat.le_of_ble_eq_true rfl) dX1_judge_27 (fun H locs hP hD hS => ?_)
    have hP : va_P D vwCl (w_grinder cI cC gh a pA pM pn pt d0 w0 g0 k0 d1 w1 g1 k1 qA qM qn qt uA uM un ut sF sk sm st se fi gr br pu v5) H := hP
    have hD : va_D AA (w_grinder cI cC gh a pA pM pn pt d0 w0 g0 k0 d1 w1 g1 k1 qA qM qn qt uA uM un ut sF sk sm st se fi gr br pu v5) := hD
    refine lv_goto (tgt := 54) hx hb dX1_judge_30 (by decide) ?_
    obtain rfl := Option.some.inj hf
    exact ret 54 ls H locs dX1_judge_54 hP hS
noncomputable def f_X1_judge_1 (x1 : Int32) (d1 : Int32) (k1 : Int32) (st : Nat → Int32) (nr : Int32) : Option (Int32 × Int32 × Int32) := lt ((if 0 ≤ (x1 - (st (0 : Int32).toNatClampNeg)) then (x1 - (st (0 : Int32).toNatClampNeg)) else 0 - (x1 - (st (0 : Int32).toNatClampNeg)))) fun v1 => (if (st (1 : Int32).toNatClampNeg) < v1 then (if (st (5 : Int32).toNatClampNeg) = (1 : Int32) then (f_X0_correctBy x1 (st (0 : Int32).toNatClampNeg) d1 k1).bind fun q4 => some (q4.1, q4.2, nr) else some (d1, k1, nr)) else lt ((nr + (1 : Int32))) fun v5 => some (d1, k1, v5))
abbrev rmX1_judge_1 : Room := { frames := 2, cells := 0, slots := 0, locals := 44 }
set_option maxHeartbeats 4000000 in
set_option maxRecDepth 100000 in
theorem c_X1_judge_1 (gh : Nat) (a : Nat → Nat) (x1 : Int32) (pA : Nat → Int32) (pM : Nat → Int32) (pn : Int32) (pt : Int32) (d0 : Int32) (w0 : Int32) (g0 : Int32) (k0 : Int32) (d1 : Int32) (w1 : Int32) (g1 : Int32) (k1 : Int32) (qA : Nat → Int32) (qM : Nat → Int32) (qn : Int32) (qt : Int32) (uA : Nat → Int32) (uM : Nat → Int32) (un : Int32) (ut : Int32) (sF : Nat → Int32) (sk : Int32) (sm : Int32) (st : Nat → Int32) (se : Int32) (fi : Int32) (gr : Int32) (br : Int32) (pu : Int32) (nr : Int32) (R : Int32 × Int32 × Int32) (hf : f_X1_judge_1 x1 d1 k1 st nr = some R) : WrV l yX1_judge wsX1_judge rmX1_judge_1 D cI cC (w_grinder cI cC gh a pA pM pn pt d0 w0 g0 k0 d1 w1 g1 k1 qA qM qn qt uA uM un ut sF sk sm st se fi gr br pu nr) (w_grinder cI cC gh a pA pM pn pt d0 w0 g0 k0 R.1 w1 g1 R.2.1 qA qM qn qt uA uM un ut sF sk sm st se fi gr br pu R.2.2) [.ref gh, .int x1, .ref (a 6)] := by
  refine en_V (cc := cX1_judge) (n := 3) (by decide) rfl (Nat.le_of_ble_eq_true rfl) ?_
  intro p e s m args below meth c Q AA ls hx hb hml hown hts hK hN hP hD hS hl ret
  have hown : s.vm.findClass RX1 = some m.cls := hown
  have hF : FX p m c cX1_judge 3 s args wsX1_judge RX1 D cI cC := ⟨⟨hx, hb, hml, hown, hts⟩, hK, hN⟩
  have hl : lv_has ls 3 [(0, .ref gh), (1, .int x1), (2, .ref (a 6))] := hl
  have k1_ := hts (.fieldLink RX1 47 "DriftGrinders$Grinder" "settings" "[I") (List.mem_of_getElem? (i := 1) rfl)
  have k2_ := hts (.methodLink RX1 166 Lib.Math.abs.name) (List.mem_of_getElem? (i := 2) rfl)
  have k3_ := hts (.static Lib.Math.abs.name) (List.mem_of_getElem? (i := 3) rfl)
  have k4_ := hts (.initialized "java/lang/Math") (List.mem_of_getElem? (i := 4) rfl)
  have k5_ := hts (.code Lib.Math.abs.name Lib.Math.abs.code 1 (some .int)) (List.mem_of_getElem? (i := 5) rfl)
  have k6_ := hts (.fieldLink RX1 86 "DriftGrinders$Grinder" "shotsNearTarget" "I") (List.mem_of_getElem? (i := 6) rfl)
  have n1_ : ∀ w ∈ wsX10, w ∈ wsX1_judge := fun _ h => List.mem_cons_of_mem _ (List.mem_append_left _ (List.mem_append_right _ h))
  rw [f_X1_judge_1] at hf
  obtain ⟨H, hH⟩ : ∃ z : Heap, z = s.heap := ⟨_, rfl⟩
  obtain ⟨locs, hL⟩ : ∃ z : List Loc, z = [] := ⟨_, rfl⟩
  replace hP := hH ▸ hP
  replace hS : va_S AA s.heap H locs := by rw [hH, hL]; exact hS
  suffices hgoal : W p l e rmX1_judge_1 s m args below meth c H locs 0 0 Q (F0 m 0 ls []) by rw [hH, hL] at hgoal; exact hgoal
  clear hH hL
  refine lv_iload_n hx hb dX1_judge_0 rfl (lv_at hl 1 rfl) ?_
  refine lv_aload_n hx hb dX1_judge_1 rfl (lv_at hl 0 rfl) ?_
  refine va_get hx hb hts n1_ hown hK hP 0 rfl rfl 6 (Nat.le_of_ble_eq_true rfl) k1_ (fun _ h => h) rfl dX1_judge_2 ?_
  refine lv_iconst (v := (0 : Int32)) hx hb dX1_judge_5 (by decide) ?_
  refine va_iald hx hb hK hP 15 0 rfl rfl (show ¬ ((0 : Int32) < 0 ∨ 6 ≤ (0 : Int32).toNatClampNeg) by decide) dX1_judge_6 ?_
  refine lv_isub hx hb dX1_judge_7 ?_
  refine va_mabs hx hb (hml.trans hl.1.symm) hown k2_ k3_ k4_ k5_ (Nat.le_of_ble_eq_true rfl) (Nat.le_of_ble_eq_true rfl) (Nat.zero_le _) (Nat.zero_le _) dX1_judge_8 ?_
  refine lv_topi (fun v1 ev1 => ?_)
  replace hf := lt_e ev1 hf
  refine lv_aload_n hx hb dX1_judge_11 rfl (lv_at hl 0 rfl) ?_
  refine va_get hx hb hts n1_ hown hK hP 0 rfl rfl 6 (Nat.le_of_ble_eq_true rfl) k1_ (fun _ h => h) rfl dX1_judge_12 ?_
  refine lv_iconst (v := (1 : Int32)) hx hb dX1_judge_15 (by decide) ?_
  refine va_iald hx hb hK hP 15 0 rfl rfl (show ¬ ((1 : Int32) < 0 ∨ 6 ≤ (1 : Int32).toNatClampNeg) by decide) dX1_judge_16 ?_
  refine lv_icmp_gt (tgt := 33) hx hb dX1_judge_17 (by decide) (fun hc2 => ?_) (fun hc2 => ?_)
  · replace hf := it hc2 hf
    refine lv_aload_n hx hb dX1_judge_33 rfl (lv_at hl 0 rfl) ?_
    refine va_get hx hb hts n1_ hown hK hP 0 rfl rfl 6 (Nat.le_of_ble_eq_true rfl) k1_ (fun _ h => h) rfl dX1_judge_34 ?_
    refine lv_iconst (v := (5 : Int32)) hx hb dX1_judge_37 (by decide) ?_
    refine va_iald hx hb hK hP 15 0 rfl rfl (show ¬ ((5 : Int32) < 0 ∨ 6 ≤ (5 : Int32).toNatClampNeg) by decide) dX1_judge_38 ?_
    refine lv_iconst (v := (1 : Int32)) hx hb dX1_judge_39 (by decide) ?_
    refine lv_icmp_ne (tgt := 54) hx hb dX1_judge_40 (by decide) (fun hc3 => ?_) (fun hc3 => ?_)
    · replace hf := ie hc3 hf
      obtain rfl := Option.some.inj hf
      exact ret 54 ls H locs dX1_judge_54 hP hS
    · replace hf := it hc3 hf
      refine lv_aload_n hx hb dX1_judge_43 rfl (lv_at hl 2 rfl) ?_
      refine lv_iload_n hx hb dX1_judge_44 rfl (lv_at hl 1 rfl) ?_
      refine lv_aload_n hx hb dX1_judge_45 rfl (lv_at hl 0 rfl) ?_
      refine va_get hx hb hts n1_ hown hK hP 0 rfl rfl 6 (Nat.le_of_ble_eq_true rfl) k1_ (fun _ h => h) rfl dX1_judge_46 ?_
      refine lv_iconst (v := (0 : Int32)) hx hb dX1_judge_49 (by decide) ?_
      refine va_iald hx hb hK hP 15 0 rfl rfl (show ¬ ((0 : Int32) < 0 ∨ 6 ≤ (0 : Int32).toNatClampNeg) by decide) dX1_judge_50 ?_
      obtain ⟨q4, hq4, hf⟩ := ob hf
      refine cl_VV (As := [.int x1, .int (st (0 : Int32).toNatClampNeg)]) (rest := []) hF hP hD hS (c_X0_correctBy (a 6) x1 (st (0 : Int32).toNatClampNeg) d1 w1 g1 k1 q4 hq4) (cwV 2 hts gX1_judge_X0_correctBy rfl rfl rfl (by decide +kernel) ⟨(Nat.le_of_ble_eq_true rfl), (Nat.le_of_ble_eq_true rfl)⟩) [6] rfl (by decide) (va_recv hK hP (ci := 0) (q0 := 6) rfl rfl) rfl rfl hl.1 (Nat.le_of_ble_eq_true rfl) dX1_judge_51 ⟨Nat.zero_le _, Nat.zero_le _⟩ (hA2 [(a 6)] rfl rfl) (fun H locs hP hD hS => ?_)
      have hP : va_P D vwCl (w_grinder cI cC gh a pA pM pn pt d0 w0 g0 k0 q4.1 w1 g1 q4.2 qA qM qn qt uA uM un ut sF sk sm st se fi gr br pu nr) H := hP
      have hD : va_D AA (w_grinder cI cC gh a pA pM pn pt d0 w0 g0 k0 q4.1 w1 g1 q4.2 qA qM qn qt uA uM un ut sF sk sm st se fi gr br pu nr) := hD
      obtain rfl := Option.some.inj hf
      exact ret 54 ls H locs dX1_judge_54 hP hS
  · replace hf := ie hc2 hf
    refine lv_aload_n hx hb dX1_judge_20 rfl (lv_at hl 0 rfl) ?_
    refine lv_dup hx hb dX1_judge_21 rfl ?_
    refine va_get hx hb hts n1_ hown hK hP 0 rfl rfl 12 (Nat.le_of_ble_eq_true rfl) k6_ (fun _ h => h) rfl dX1_judge_22 ?_
    refine lv_iconst (v := (1 : Int32)) hx hb dX1_judge_25 (by decide) ?_
    refine lv_iadd hx hb dX1_judge_26 ?_
    refine lv_topi (fun v5 ev5 => ?_)
    replace hf := lt_e ev5 hf
    refine va_put hx hb hts n1_ tyX1 tyX1_ok nmX1 hown hK hP hD hS 0 rfl rfl 12 (Nat.le_of_ble_eq_true rfl) k6_ (fun _ h => h) rfl (v := .int v5) (tyX1_ok 12 (Nat.le_of_ble_eq_true rfl)) rfl rfl (Nat.le_of_ble_eq_true rfl) dX1_judge_27 (fun H locs hP hD hS => ?_)
    have hP : va_P D vwCl (w_grinder cI cC gh a pA pM pn pt d0 w0 g0 k0 d1 w1 g1 k1 qA qM qn qt uA uM un ut sF sk sm st se fi gr br pu v5) H := hP
    have hD : va_D AA (w_grinder cI cC gh a pA pM pn pt d0 w0 g0 k0 d1 w1 g1 k1 qA qM qn qt uA uM un ut sF sk sm st se fi gr br pu v5) := hD
    refine lv_goto (tgt := 54) hx hb dX1_judge_30 (by decide) ?_
    obtain rfl := Option.some.inj hf
    exact ret 54 ls H locs dX1_judge_54 hP hS
noncomputable def f_X1_makeShot_J44 (uA : Nat → Int32) (uM : Nat → Int32) (st : Nat → Int32) (y1_44 : Int32) (y2_44 : Int32) (z0_44 : Int32) (d0_44 : Int32) (w0_44 : Int32) (k0_44 : Int32) (d1_44 : Int32) (w1_44 : Int32) (k1_44 : Int32) (un_44 : Int32) (ut_44 : Int32) (sF_44 : Nat → Int32) (sk_44 : Int32) (sm_44 : Int32) (se_44 : Int32) (br_44 : Int32) (nr_44 : Int32) : Option (Int32 × Int32 × Int32 × Int32 × Int32 × Int32 × Int32 × Int32 × Int32 × (Nat → Int32) × Int32 × Int32 × Int32 × Int32 × Int32) := (f_X6_add y1_44 ut_44 y2_44 z0_44 se_44 un_44 sF_44 sk_44 sm_44).bind fun q7 => lt ((br_44 + ut_44)) fun v8 => (f_X5_clear 400 un_44 ut_44).bind fun q9 => (if y2_44 = 0 then (f_X1_judge_0 y1_44 d0_44 k0_44 st nr_44).bind fun q11 => (f_X1_passSeconds (y1_44 / (10 : Int32)) w0_44 w1_44 se_44).bind fun q12 => some (y1_44, q11.1, q12.1, q11.2.1, d1_44, q12.2.1, k1_44, q9.1, q9.2, q7.1, q7.2.1, q7.2.2, q12.2.2, v8, q11.2.2) else (f_X1_judge_1 y1_44 d1_44 k1_44 st nr_44).bind fun q13 => (f_X1_passSeconds (y1_44 / (10 : Int32)) w0_44 w1_44 se_44).bind fun q14 => some (y1_44, d0_44, q14.1, k0_44, q13.1, q14.2.1, q13.2.1, q9.1, q9.2, q7.1, q7.2.1, q7.2.2, q14.2.2, v8, q13.2.2))
noncomputable def f_X1_makeShot_J27 (uA : Nat → Int32) (uM : Nat → Int32) (st : Nat → Int32) (y1_27 : Int32) (z0_27 : Int32) (d0_27 : Int32) (w0_27 : Int32) (k0_27 : Int32) (d1_27 : Int32) (w1_27 : Int32) (k1_27 : Int32) (un_27 : Int32) (ut_27 : Int32) (sF_27 : Nat → Int32) (sk_27 : Int32) (sm_27 : Int32) (se_27 : Int32) (br_27 : Int32) (nr_27 : Int32) : Option (Int32 × Int32 × Int32 × Int32 × Int32 × Int32 × Int32 × Int32 × Int32 × (Nat → Int32) × Int32 × Int32 × Int32 × Int32 × Int32) := (f_X5_isMostly 400 (1 : Int32) uA uM un_27 ut_27).bind fun q5 => (if q5 = 0 then f_X1_makeShot_J44 uA uM st y1_27 z0_27 (0 : Int32) d0_27 w0_27 k0_27 d1_27 w1_27 k1_27 un_27 ut_27 sF_27 sk_27 sm_27 se_27 br_27 nr_27 else f_X1_makeShot_J44 uA uM st y1_27 z0_27 (1 : Int32) d0_27 w0_27 k0_27 d1_27 w1_27 k1_27 un_27 ut_27 sF_27 sk_27 sm_27 se_27 br_27 nr_27)
noncomputable def f_X1_makeShot (d0 : Int32) (w0 : Int32) (k0 : Int32) (d1 : Int32) (w1 : Int32) (k1 : Int32) (uA : Nat → Int32) (uM : Nat → Int32) (un : Int32) (ut : Int32) (sF : Nat → Int32) (sk : Int32) (sm : Int32) (st : Nat → Int32) (se : Int32) (br : Int32) (nr : Int32) : Option (Int32 × Int32 × Int32 × Int32 × Int32 × Int32 × Int32 × Int32 × Int32 × (Nat → Int32) × Int32 × Int32 × Int32 × Int32 × Int32) := (f_X1_timeOfBasket uA uM un ut st).bind fun q1 => (if 0 ≤ q1 then (f_X5_isMostly 400 (2 : Int32) uA uM un ut).bind fun q3 => (if q3 = 0 then f_X1_makeShot_J27 uA uM st q1 (0 : Int32) d0 w0 k0 d1 w1 k1 un ut sF sk sm se br nr else f_X1_makeShot_J27 uA uM st q1 (1 : Int32) d0 w0 k0 d1 w1 k1 un ut sF sk sm se br nr) else some (q1, d0, w0, k0, d1, w1, k1, un, ut, sF, sk, sm, se, br, nr))
abbrev rmX1_makeShot : Room := { frames := 4, cells := 0, slots := 0, locals := 86 }
set_option maxHeartbeats 4000000 in
set_option maxRecDepth 100000 in
theorem c_X1_makeShot (gh : Nat) (a : Nat → Nat) (pA : Nat → Int32) (pM : Nat → Int32) (pn : Int32) (pt : Int32) (d0 : Int32) (w0 : Int32) (g0 : Int32) (k0 : Int32) (d1 : Int32) (w1 : Int32) (g1 : Int32) (k1 : Int32) (qA : Nat → Int32) (qM : Nat → Int32) (qn : Int32) (qt : Int32) (uA : Nat → Int32) (uM : Nat → Int32) (un : Int32) (ut : Int32) (sF : Nat → Int32) (sk : Int32) (sm : Int32) (st : Nat → Int32) (se : Int32) (fi : Int32) (gr : Int32) (br : Int32) (pu : Int32) (nr : Int32) (R : Int32 × Int32 × Int32 × Int32 × Int32 × Int32 × Int32 × Int32 × Int32 × (Nat → Int32) × Int32 × Int32 × Int32 × Int32 × Int32) (hf : f_X1_makeShot d0 w0 k0 d1 w1 k1 uA uM un ut sF sk sm st se br nr = some R) : WrI l yX1_makeShot wsX1_makeShot rmX1_makeShot D cI cC (w_grinder cI cC gh a pA pM pn pt d0 w0 g0 k0 d1 w1 g1 k1 qA qM qn qt uA uM un ut sF sk sm st se fi gr br pu nr) (w_grinder cI cC gh a pA pM pn pt R.2.1 R.2.2.1 g0 R.2.2.2.1 R.2.2.2.2.1 R.2.2.2.2.2.1 g1 R.2.2.2.2.2.2.1 qA qM qn qt uA uM R.2.2.2.2.2.2.2.1 R.2.2.2.2.2.2.2.2.1 R.2.2.2.2.2.2.2.2.2.1 R.2.2.2.2.2.2.2.2.2.2.1 R.2.2.2.2.2.2.2.2.2.2.2.1 st R.2.2.2.2.2.2.2.2.2.2.2.2.1 fi gr R.2.2.2.2.2.2.2.2.2.2.2.2.2.1 pu R.2.2.2.2.2.2.2.2.2.2.2.2.2.2) [.ref gh] R.1 := by
  refine en_W (cc := cX1_makeShot) (n := 4) (by decide) rfl (Nat.le_of_ble_eq_true rfl) ?_
  intro p e s m args below meth c Q AA ls hx hb hml hown hts hK hN hP hD hS hl ret
  have hown : s.vm.findClass RX1 = some m.cls := hown
  have hF : FX p m c cX1_makeShot 4 s args wsX1_makeShot RX1 D cI cC := ⟨⟨hx, hb, hml, hown, hts⟩, hK, hN⟩
  have hl : lv_has ls 4 [(0, .ref gh)] := hl
  have k1_ := hts (.fieldLink RX1 37 "DriftGrinders$Grinder" "basket" "LDriftGrinders$Row;") (List.mem_of_getElem? (i := 1) rfl)
  have k2_ := hts (.fieldLink RX1 43 "DriftGrinders$Grinder" "shots" "LDriftGrinders$Shots;") (List.mem_of_getElem? (i := 2) rfl)
  have k3_ := hts (.fieldLink RX1 70 "DriftGrinders$Grinder" "second" "I") (List.mem_of_getElem? (i := 3) rfl)
  have k4_ := hts (.fieldLink RX1 80 "DriftGrinders$Grinder" "brewed" "I") (List.mem_of_getElem? (i := 4) rfl)
  have n1_ : ∀ w ∈ wsX10, w ∈ wsX1_makeShot := fun _ h => List.mem_cons_of_mem _ (List.mem_append_left _ (List.mem_append_left _ (List.mem_append_left _ (List.mem_append_right _ h))))
  have n5_ : ∀ w ∈ wsX50, w ∈ wsX1_makeShot := fun _ h => List.mem_cons_of_mem _ (List.mem_append_left _ (List.mem_append_left _ (List.mem_append_right _ h)))
  have J44 : ∀ (y1_44 : Int32) (y2_44 : Int32) (z0_44 : Int32) (d0_44 : Int32) (w0_44 : Int32) (k0_44 : Int32) (d1_44 : Int32) (w1_44 : Int32) (k1_44 : Int32) (un_44 : Int32) (ut_44 : Int32) (sF_44 : Nat → Int32) (sk_44 : Int32) (sm_44 : Int32) (se_44 : Int32) (br_44 : Int32) (nr_44 : Int32) (H : Heap) (locs : List Loc), va_P D vwCl (w_grinder cI cC gh a pA pM pn pt d0_44 w0_44 g0 k0_44 d1_44 w1_44 g1 k1_44 qA qM qn qt uA uM un_44 ut_44 sF_44 sk_44 sm_44 st se_44 fi gr br_44 pu nr_44) H → va_D AA (w_grinder cI cC gh a pA pM pn pt d0_44 w0_44 g0 k0_44 d1_44 w1_44 g1 k1_44 qA qM qn qt uA uM un_44 ut_44 sF_44 sk_44 sm_44 st se_44 fi gr br_44 pu nr_44) → va_S AA s.heap H locs → ∀ ls : Array Slot, lv_has ls 4 [(0, .ref gh), (1, .int y1_44), (2, .int y2_44)] → f_X1_makeShot_J44 uA uM st y1_44 y2_44 z0_44 d0_44 w0_44 k0_44 d1_44 w1_44 k1_44 un_44 ut_44 sF_44 sk_44 sm_44 se_44 br_44 nr_44 = some R → W p l e rmX1_makeShot s m args below meth c H locs 0 0 Q (F0 m 44 ls [.int z0_44]) := by
    intro y1_44 y2_44 z0_44 d0_44 w0_44 k0_44 d1_44 w1_44 k1_44 un_44 ut_44 sF_44 sk_44 sm_44 se_44 br_44 nr_44 H locs hP hD hS ls hl hf
    rw [f_X1_makeShot_J44] at hf
    refine lv_istore_n (lv' := [(3, .int z0_44), (0, .ref gh), (1, .int y1_44), (2, .int y2_44)]) hx hb dX1_makeShot_44 rfl hl (by decide) rfl (fun ls hl => ?_)
    refine lv_aload_n hx hb dX1_makeShot_45 rfl (lv_at hl 1 rfl) ?_
    refine va_get hx hb hts n1_ hown hK hP 0 rfl rfl 5 (Nat.le_of_ble_eq_true rfl) k2_ (fun _ h => h) rfl dX1_makeShot_46 ?_
    refine lv_iload_n hx hb dX1_makeShot_49 rfl (lv_at hl 2 rfl) ?_
    refine lv_aload_n hx hb dX1_makeShot_50 rfl (lv_at hl 1 rfl) ?_
    refine va_get hx hb hts n1_ hown hK hP 0 rfl rfl 4 (Nat.le_of_ble_eq_true rfl) k1_ (fun _ h => h) rfl dX1_makeShot_51 ?_
    refine va_getN hx hb hts n5_ hown hK hP 10 rfl rfl 3 (Nat.le_of_ble_eq_true rfl) (hN.get 3 rfl) (fun _ h => h) rfl dX1_makeShot_54 ?_
    refine lv_iload_n hx hb dX1_makeShot_57 rfl (lv_at hl 3 rfl) ?_
    refine lv_iload_n hx hb dX1_makeShot_58 rfl (lv_at hl 0 rfl) ?_
    refine lv_aload_n hx hb dX1_makeShot_59 rfl (lv_at hl 1 rfl) ?_
    refine va_get hx hb hts n1_ hown hK hP 0 rfl rfl 7 (Nat.le_of_ble_eq_true rfl) k3_ (fun _ h => h) rfl dX1_makeShot_60 ?_
    refine lv_aload_n hx hb dX1_makeShot_63 rfl (lv_at hl 1 rfl) ?_
    refine va_get hx hb hts n1_ hown hK hP 0 rfl rfl 4 (Nat.le_of_ble_eq_true rfl) k1_ (fun _ h => h) rfl dX1_makeShot_64 ?_
    refine va_getN hx hb hts n5_ hown hK hP 10 rfl rfl 2 (Nat.le_of_ble_eq_true rfl) (hN.get 1 rfl) (fun _ h => h) rfl dX1_makeShot_67 ?_
    obtain ⟨q7, hq7, hf⟩ := ob hf
    refine cl_VV (As := [.int y1_44, .int ut_44, .int y2_44, .int z0_44, .int se_44, .int un_44]) (rest := []) hF hP hD hS (c_X6_add (a 13) (a 14) y1_44 ut_44 y2_44 z0_44 se_44 un_44 sF_44 sk_44 sm_44 q7 hq7) (cwV 6 hts gX1_makeShot_X6_add rfl rfl rfl (by decide +kernel) ⟨(Nat.le_of_ble_eq_true rfl), (Nat.le_of_ble_eq_true rfl)⟩) [13, 14] rfl (by decide) (va_recv hK hP (ci := 6) (q0 := 13) rfl rfl) rfl rfl hl.1 (Nat.le_of_ble_eq_true rfl) dX1_makeShot_70 ⟨Nat.zero_le _, Nat.zero_le _⟩ (hA2 [(a 13), (a 14)] rfl rfl) (fun H locs hP hD hS => ?_)
    have hP : va_P D vwCl (w_grinder cI cC gh a pA pM pn pt d0_44 w0_44 g0 k0_44 d1_44 w1_44 g1 k1_44 qA qM qn qt uA uM un_44 ut_44 q7.1 q7.2.1 q7.2.2 st se_44 fi gr br_44 pu nr_44) H := hP
    have hD : va_D AA (w_grinder cI cC gh a pA pM pn pt d0_44 w0_44 g0 k0_44 d1_44 w1_44 g1 k1_44 qA qM qn qt uA uM un_44 ut_44 q7.1 q7.2.1 q7.2.2 st se_44 fi gr br_44 pu nr_44) := hD
    refine lv_aload_n hx hb dX1_makeShot_73 rfl (lv_at hl 1 rfl) ?_
    refine lv_dup hx hb dX1_makeShot_74 rfl ?_
    refine va_get hx hb hts n1_ hown hK hP 0 rfl rfl 10 (Nat.le_of_ble_eq_true rfl) k4_ (fun _ h => h) rfl dX1_makeShot_75 ?_
    refine lv_aload_n hx hb dX1_makeShot_78 rfl (lv_at hl 1 rfl) ?_
    refine va_get hx hb hts n1_ hown hK hP 0 rfl rfl 4 (Nat.le_of_ble_eq_true rfl) k1_ (fun _ h => h) rfl dX1_makeShot_79 ?_
    refine va_getN hx hb hts n5_ hown hK hP 10 rfl rfl 3 (Nat.le_of_ble_eq_true rfl) (hN.get 3 rfl) (fun _ h => h) rfl dX1_makeShot_82 ?_
    refine lv_iadd hx hb dX1_makeShot_85 ?_
    refine lv_topi (fun v8 ev8 => ?_)
    replace hf := lt_e ev8 hf
    refine va_put hx hb hts n1_ tyX1 tyX1_ok nmX1 hown hK hP hD hS 0 rfl rfl 10 (Nat.le_of_ble_eq_true rfl) k4_ (fun _ h => h) rfl (v := .int v8) (tyX1_ok 10 (Nat.le_of_ble_eq_true rfl)) rfl rfl (Nat.le_of_ble_eq_true rfl) dX1_makeShot_86 (fun H locs hP hD hS => ?_)
    have hP : va_P D vwCl (w_grinder cI cC gh a pA pM pn pt d0_44 w0_44 g0 k0_44 d1_44 w1_44 g1 k1_44 qA qM qn qt uA uM un_44 ut_44 q7.1 q7.2.1 q7.2.2 st se_44 fi gr v8 pu nr_44) H := hP
    have hD : va_D AA (w_grinder cI cC gh a pA pM pn pt d0_44 w0_44 g0 k0_44 d1_44 w1_44 g1 k1_44 qA qM qn qt uA uM un_44 ut_44 q7.1 q7.2.1 q7.2.2 st se_44 fi gr v8 pu nr_44) := hD
    refine lv_aload_n hx hb dX1_makeShot_89 rfl (lv_at hl 1 rfl) ?_
    refine va_get hx hb hts n1_ hown hK hP 0 rfl rfl 4 (Nat.le_of_ble_eq_true rfl) k1_ (fun _ h => h) rfl dX1_makeShot_90 ?_
    obtain ⟨q9, hq9, hf⟩ := ob hf
    refine cl_VV (As := []) (rest := []) hF hP hD hS (c_X5_clear (a 10) (a 11) (a 12) 400 uA uM un_44 ut_44 q9 hq9) (cwV 0 hts gX1_makeShot_X5_clear rfl rfl rfl (by decide +kernel) ⟨(Nat.le_of_ble_eq_true rfl), (Nat.le_of_ble_eq_true rfl)⟩) [10, 11, 12] rfl (by decide) (va_recv hK hP (ci := 5) (q0 := 10) rfl rfl) rfl rfl hl.1 (Nat.le_of_ble_eq_true rfl) dX1_makeShot_93 ⟨Nat.zero_le _, Nat.zero_le _⟩ (hA2 [(a 10), (a 11), (a 12)] rfl rfl) (fun H locs hP hD hS => ?_)
    have hP : va_P D vwCl (w_grinder cI cC gh a pA pM pn pt d0_44 w0_44 g0 k0_44 d1_44 w1_44 g1 k1_44 qA qM qn qt uA uM q9.1 q9.2 q7.1 q7.2.1 q7.2.2 st se_44 fi gr v8 pu nr_44) H := hP
    have hD : va_D AA (w_grinder cI cC gh a pA pM pn pt d0_44 w0_44 g0 k0_44 d1_44 w1_44 g1 k1_44 qA qM qn qt uA uM q9.1 q9.2 q7.1 q7.2.1 q7.2.2 st se_44 fi gr v8 pu nr_44) := hD
    refine lv_aload_n hx hb dX1_makeShot_96 rfl (lv_at hl 1 rfl) ?_
    refine lv_iload_n hx hb dX1_makeShot_97 rfl (lv_at hl 2 rfl) ?_
    refine lv_aload_n hx hb dX1_makeShot_98 rfl (lv_at hl 1 rfl) ?_
    refine lv_iload_n hx hb dX1_makeShot_99 rfl (lv_at hl 3 rfl) ?_
    by_cases hc10 : y2_44 = 0
    · replace hf := it hc10 hf
      refine cl_AV (As := [.int y2_44]) (rest := [.int y1_44, .ref gh]) hF hP hD (c_X1_burrNumbered_0 gh a y2_44 pA pM pn pt d0_44 w0_44 g0 k0_44 d1_44 w1_44 g1 k1_44 qA qM qn qt uA uM q9.1 q9.2 q7.1 q7.2.1 q7.2.2 st se_44 fi gr v8 pu nr_44 hc10) (cwV 1 hts gX1_makeShot_X1_burrNumbered rfl rfl rfl (by decide +kernel) ⟨(Nat.le_of_ble_eq_true rfl), (Nat.le_of_ble_eq_true rfl)⟩) [0, 1, 2, 3, 4, 5, 6, 7, 8, 9, 10, 11, 12, 13, 14, 15] rfl (by decide) (va_recv hK hP (ci := 1) (q0 := 0) rfl rfl) rfl rfl hl.1 (Nat.le_of_ble_eq_true rfl) dX1_makeShot_100 ⟨Nat.zero_le _, Nat.zero_le _⟩ ?_
      obtain ⟨q11, hq11, hf⟩ := ob hf
      refine cl_VV (As := [.int y1_44, .ref (a 5)]) (rest := []) hF hP hD hS (c_X1_judge_0 gh a y1_44 pA pM pn pt d0_44 w0_44 g0 k0_44 d1_44 w1_44 g1 k1_44 qA qM qn qt uA uM q9.1 q9.2 q7.1 q7.2.1 q7.2.2 st se_44 fi gr v8 pu nr_44 q11 hq11) (cwV 2 hts gX1_makeShot_X1_judge rfl rfl rfl (by decide +kernel) ⟨(Nat.le_of_ble_eq_true rfl), (Nat.le_of_ble_eq_true rfl)⟩) [0, 1, 2, 3, 4, 5, 6, 7, 8, 9, 10, 11, 12, 13, 14, 15] rfl (by decide) (va_recv hK hP (ci := 1) (q0 := 0) rfl rfl) rfl rfl hl.1 (Nat.le_of_ble_eq_true rfl) dX1_makeShot_103 ⟨Nat.zero_le _, Nat.zero_le _⟩ (hA2 [gh, (a 1), (a 2), (a 3), (a 4), (a 5), (a 6), (a 7), (a 8), (a 9), (a 10), (a 11), (a 12), (a 13), (a 14), (a 15)] rfl rfl) (fun H locs hP hD hS => ?_)
      have hP : va_P D vwCl (w_grinder cI cC gh a pA pM pn pt q11.1 w0_44 g0 q11.2.1 d1_44 w1_44 g1 k1_44 qA qM qn qt uA uM q9.1 q9.2 q7.1 q7.2.1 q7.2.2 st se_44 fi gr v8 pu q11.2.2) H := hP
      have hD : va_D AA (w_grinder cI cC gh a pA pM pn pt q11.1 w0_44 g0 q11.2.1 d1_44 w1_44 g1 k1_44 qA qM qn qt uA uM q9.1 q9.2 q7.1 q7.2.1 q7.2.2 st se_44 fi gr v8 pu q11.2.2) := hD
      refine lv_aload_n hx hb dX1_makeShot_106 rfl (lv_at hl 1 rfl) ?_
      refine lv_iload_n hx hb dX1_makeShot_107 rfl (lv_at hl 2 rfl) ?_
      refine lv_bipush (v := (10 : Int32)) hx hb dX1_makeShot_108 (by decide) ?_
      refine lv_idiv hx hb dX1_makeShot_110 (by decide) ?_
      obtain ⟨q12, hq12, hf⟩ := ob hf
      refine cl_VV (As := [.int (y1_44 / (10 : Int32))]) (rest := []) hF hP hD hS (c_X1_passSeconds gh a (y1_44 / (10 : Int32)) pA pM pn pt q11.1 w0_44 g0 q11.2.1 d1_44 w1_44 g1 k1_44 qA qM qn qt uA uM q9.1 q9.2 q7.1 q7.2.1 q7.2.2 st se_44 fi gr v8 pu q11.2.2 q12 hq12) (cwV 1 hts gX1_makeShot_X1_passSeconds rfl rfl rfl (by decide +kernel) ⟨(Nat.le_of_ble_eq_true rfl), (Nat.le_of_ble_eq_true rfl)⟩) [0, 1, 2, 3, 4, 5, 6, 7, 8, 9, 10, 11, 12, 13, 14, 15] rfl (by decide) (va_recv hK hP (ci := 1) (q0 := 0) rfl rfl) rfl rfl hl.1 (Nat.le_of_ble_eq_true rfl) dX1_makeShot_111 ⟨Nat.zero_le _, Nat.zero_le _⟩ (hA2 [gh, (a 1), (a 2), (a 3), (a 4), (a 5), (a 6), (a 7), (a 8), (a 9), (a 10), (a 11), (a 12), (a 13), (a 14), (a 15)] rfl rfl) (fun H locs hP hD hS => ?_)
      have hP : va_P D vwCl (w_grinder cI cC gh a pA pM pn pt q11.1 q12.1 g0 q11.2.1 d1_44 q12.2.1 g1 k1_44 qA qM qn qt uA uM q9.1 q9.2 q7.1 q7.2.1 q7.2.2 st q12.2.2 fi gr v8 pu q11.2.2) H := hP
      have hD : va_D AA (w_grinder cI cC gh a pA pM pn pt q11.1 q12.1 g0 q11.2.1 d1_44 q12.2.1 g1 k1_44 qA qM qn qt uA uM q9.1 q9.2 q7.1 q7.2.1 q7.2.2 st q12.2.2 fi gr v8 pu q11.2.2) := hD
      refine lv_iload_n hx hb dX1_makeShot_114 rfl (lv_at hl 2 rfl) ?_
      obtain rfl := Option.some.inj hf
      exact ret 115 ls _ H locs dX1_makeShot_115 rfl rfl hP hS
    · replace hf := ie hc10 hf
      refine cl_AV (As := [.int y2_44]) (rest := [.int y1_44, .ref gh]) hF hP hD (c_X1_burrNumbered_1 gh a y2_44 pA pM pn pt d0_44 w0_44 g0 k0_44 d1_44 w1_44 g1 k1_44 qA qM qn qt uA uM q9.1 q9.2 q7.1 q7.2.1 q7.2.2 st se_44 fi gr v8 pu nr_44 hc10) (cwV 1 hts gX1_makeShot_X1_burrNumbered rfl rfl rfl (by decide +kernel) ⟨(Nat.le_of_ble_eq_true rfl), (Nat.le_of_ble_eq_true rfl)⟩) [0, 1, 2, 3, 4, 5, 6, 7, 8, 9, 10, 11, 12, 13, 14, 15] rfl (by decide) (va_recv hK hP (ci := 1) (q0 := 0) rfl rfl) rfl rfl hl.1 (Nat.le_of_ble_eq_true rfl) dX1_makeShot_100 ⟨Nat.zero_le _, Nat.zero_le _⟩ ?_
      obtain ⟨q13, hq13, hf⟩ := ob hf
      refine cl_VV (As := [.int y1_44, .ref (a 6)]) (rest := []) hF hP hD hS (c_X1_judge_1 gh a y1_44 pA pM pn pt d0_44 w0_44 g0 k0_44 d1_44 w1_44 g1 k1_44 qA qM qn qt uA uM q9.1 q9.2 q7.1 q7.2.1 q7.2.2 st se_44 fi gr v8 pu nr_44 q13 hq13) (cwV 2 hts gX1_makeShot_X1_judge rfl rfl rfl (by decide +kernel) ⟨(Nat.le_of_ble_eq_true rfl), (Nat.le_of_ble_eq_true rfl)⟩) [0, 1, 2, 3, 4, 5, 6, 7, 8, 9, 10, 11, 12, 13, 14, 15] rfl (by decide) (va_recv hK hP (ci := 1) (q0 := 0) rfl rfl) rfl rfl hl.1 (Nat.le_of_ble_eq_true rfl) dX1_makeShot_103 ⟨Nat.zero_le _, Nat.zero_le _⟩ (hA2 [gh, (a 1), (a 2), (a 3), (a 4), (a 5), (a 6), (a 7), (a 8), (a 9), (a 10), (a 11), (a 12), (a 13), (a 14), (a 15)] rfl rfl) (fun H locs hP hD hS => ?_)
      have hP : va_P D vwCl (w_grinder cI cC gh a pA pM pn pt d0_44 w0_44 g0 k0_44 q13.1 w1_44 g1 q13.2.1 qA qM qn qt uA uM q9.1 q9.2 q7.1 q7.2.1 q7.2.2 st se_44 fi gr v8 pu q13.2.2) H := hP
      have hD : va_D AA (w_grinder cI cC gh a pA pM pn pt d0_44 w0_44 g0 k0_44 q13.1 w1_44 g1 q13.2.1 qA qM qn qt uA uM q9.1 q9.2 q7.1 q7.2.1 q7.2.2 st se_44 fi gr v8 pu q13.2.2) := hD
      refine lv_aload_n hx hb dX1_makeShot_106 rfl (lv_at hl 1 rfl) ?_
      refine lv_iload_n hx hb dX1_makeShot_107 rfl (lv_at hl 2 rfl) ?_
      refine lv_bipush (v := (10 : Int32)) hx hb dX1_makeShot_108 (by decide) ?_
      refine lv_idiv hx hb dX1_makeShot_110 (by decide) ?_
      obtain ⟨q14, hq14, hf⟩ := ob hf
      refine cl_VV (As := [.int (y1_44 / (10 : Int32))]) (rest := []) hF hP hD hS (c_X1_passSeconds gh a (y1_44 / (10 : Int32)) pA pM pn pt d0_44 w0_44 g0 k0_44 q13.1 w1_44 g1 q13.2.1 qA qM qn qt uA uM q9.1 q9.2 q7.1 q7.2.1 q7.2.2 st se_44 fi gr v8 pu q13.2.2 q14 hq14) (cwV 1 hts gX1_makeShot_X1_passSeconds rfl rfl rfl (by decide +kernel) ⟨(Nat.le_of_ble_eq_true rfl), (Nat.le_of_ble_eq_true rfl)⟩) [0, 1, 2, 3, 4, 5, 6, 7, 8, 9, 10, 11, 12, 13, 14, 15] rfl (by decide) (va_recv hK hP (ci := 1) (q0 := 0) rfl rfl) rfl rfl hl.1 (Nat.le_of_ble_eq_true rfl) dX1_makeShot_111 ⟨Nat.zero_le _, Nat.zero_le _⟩ (hA2 [gh, (a 1), (a 2), (a 3), (a 4), (a 5), (a 6), (a 7), (a 8), (a 9), (a 10), (a 11), (a 12), (a 13), (a 14), (a 15)] rfl rfl) (fun H locs hP hD hS => ?_)
      have hP : va_P D vwCl (w_grinder cI cC gh a pA pM pn pt d0_44 q14.1 g0 k0_44 q13.1 q14.2.1 g1 q13.2.1 qA qM qn qt uA uM q9.1 q9.2 q7.1 q7.2.1 q7.2.2 st q14.2.2 fi gr v8 pu q13.2.2) H := hP
      have hD : va_D AA (w_grinder cI cC gh a pA pM pn pt d0_44 q14.1 g0 k0_44 q13.1 q14.2.1 g1 q13.2.1 qA qM qn qt uA uM q9.1 q9.2 q7.1 q7.2.1 q7.2.2 st q14.2.2 fi gr v8 pu q13.2.2) := hD
      refine lv_iload_n hx hb dX1_makeShot_114 rfl (lv_at hl 2 rfl) ?_
      obtain rfl := Option.some.inj hf
      exact ret 115 ls _ H locs dX1_makeShot_115 rfl rfl hP hS
  have J27 : ∀ (y1_27 : Int32) (z0_27 : Int32) (d0_27 : Int32) (w0_27 : Int32) (k0_27 : Int32) (d1_27 : Int32) (w1_27 : Int32) (k1_27 : Int32) (un_27 : Int32) (ut_27 : Int32) (sF_27 : Nat → Int32) (sk_27 : Int32) (sm_27 : Int32) (se_27 : Int32) (br_27 : Int32) (nr_27 : Int32) (H : Heap) (locs : List Loc), va_P D vwCl (w_grinder cI cC gh a pA pM pn pt d0_27 w0_27 g0 k0_27 d1_27 w1_27 g1 k1_27 qA qM qn qt uA uM un_27 ut_27 sF_27 sk_27 sm_27 st se_27 fi gr br_27 pu nr_27) H → va_D AA (w_grinder cI cC gh a pA pM pn pt d0_27 w0_27 g0 k0_27 d1_27 w1_27 g1 k1_27 qA qM qn qt uA uM un_27 ut_27 sF_27 sk_27 sm_27 st se_27 fi gr br_27 pu nr_27) → va_S AA s.heap H locs → ∀ ls : Array Slot, lv_has ls 4 [(0, .ref gh), (1, .int y1_27)] → f_X1_makeShot_J27 uA uM st y1_27 z0_27 d0_27 w0_27 k0_27 d1_27 w1_27 k1_27 un_27 ut_27 sF_27 sk_27 sm_27 se_27 br_27 nr_27 = some R → W p l e rmX1_makeShot s m args below meth c H locs 0 0 Q (F0 m 27 ls [.int z0_27]) := by
    intro y1_27 z0_27 d0_27 w0_27 k0_27 d1_27 w1_27 k1_27 un_27 ut_27 sF_27 sk_27 sm_27 se_27 br_27 nr_27 H locs hP hD hS ls hl hf
    rw [f_X1_makeShot_J27] at hf
    refine lv_istore_n (lv' := [(2, .int z0_27), (0, .ref gh), (1, .int y1_27)]) hx hb dX1_makeShot_27 rfl hl (by decide) rfl (fun ls hl => ?_)
    refine lv_aload_n hx hb dX1_makeShot_28 rfl (lv_at hl 1 rfl) ?_
    refine va_get hx hb hts n1_ hown hK hP 0 rfl rfl 4 (Nat.le_of_ble_eq_true rfl) k1_ (fun _ h => h) rfl dX1_makeShot_29 ?_
    refine lv_iconst (v := (1 : Int32)) hx hb dX1_makeShot_32 (by decide) ?_
    obtain ⟨q5, hq5, hf⟩ := ob hf
    refine cl_RV (As := [.int (1 : Int32)]) (rest := []) hF hP hD (c_X5_isMostly (a 10) (a 11) (a 12) 400 (1 : Int32) uA uM un_27 ut_27 q5 hq5) (cwV 1 hts gX1_makeShot_X5_isMostly rfl rfl rfl (by decide +kernel) ⟨(Nat.le_of_ble_eq_true rfl), (Nat.le_of_ble_eq_true rfl)⟩) [10, 11, 12] rfl (by decide) (va_recv hK hP (ci := 5) (q0 := 10) rfl rfl) rfl rfl hl.1 (Nat.le_of_ble_eq_true rfl) dX1_makeShot_33 ⟨Nat.zero_le _, Nat.zero_le _⟩ ?_
    refine lv_if_eq (tgt := 43) hx hb dX1_makeShot_36 (by decide) (fun hc6 => ?_) (fun hc6 => ?_)
    · replace hf := it hc6 hf
      refine lv_iconst (v := (0 : Int32)) hx hb dX1_makeShot_43 (by decide) ?_
      exact J44 y1_27 z0_27 (0 : Int32) d0_27 w0_27 k0_27 d1_27 w1_27 k1_27 un_27 ut_27 sF_27 sk_27 sm_27 se_27 br_27 nr_27 H locs hP hD hS ls (lv_sub hl [1, 2, 0] rfl) hf
    · replace hf := ie hc6 hf
      refine lv_iconst (v := (1 : Int32)) hx hb dX1_makeShot_39 (by decide) ?_
      refine lv_goto (tgt := 44) hx hb dX1_makeShot_40 (by decide) ?_
      exact J44 y1_27 z0_27 (1 : Int32) d0_27 w0_27 k0_27 d1_27 w1_27 k1_27 un_27 ut_27 sF_27 sk_27 sm_27 se_27 br_27 nr_27 H locs hP hD hS ls (lv_sub hl [1, 2, 0] rfl) hf
  rw [f_X1_makeShot] at hf
  obtain ⟨H, hH⟩ : ∃ z : Heap, z = s.heap := ⟨_, rfl⟩
  obtain ⟨locs, hL⟩ : ∃ z : List Loc, z = [] := ⟨_, rfl⟩
  replace hP := hH ▸ hP
  replace hS : va_S AA s.heap H locs := by rw [hH, hL]; exact hS
  suffices hgoal : W p l e rmX1_makeShot s m args below meth c H locs 0 0 Q (F0 m 0 ls []) by rw [hH, hL] at hgoal; exact hgoal
  clear hH hL
  refine lv_aload_n hx hb dX1_makeShot_0 rfl (lv_at hl 0 rfl) ?_
  obtain ⟨q1, hq1, hf⟩ := ob hf
  refine cl_RV (As := []) (rest := []) hF hP hD (c_X1_timeOfBasket gh a pA pM pn pt d0 w0 g0 k0 d1 w1 g1 k1 qA qM qn qt uA uM un ut sF sk sm st se fi gr br pu nr q1 hq1) (cwV 0 hts gX1_makeShot_X1_timeOfBasket rfl rfl rfl (by decide +kernel) ⟨(Nat.le_of_ble_eq_true rfl), (Nat.le_of_ble_eq_true rfl)⟩) [0, 1, 2, 3, 4, 5, 6, 7, 8, 9, 10, 11, 12, 13, 14, 15] rfl (by decide) (va_recv hK hP (ci := 1) (q0 := 0) rfl rfl) rfl rfl hl.1 (Nat.le_of_ble_eq_true rfl) dX1_makeShot_1 ⟨Nat.zero_le _, Nat.zero_le _⟩ ?_
  refine lv_istore_n (lv' := [(1, .int q1), (0, .ref gh)]) hx hb dX1_makeShot_4 rfl hl (by decide) rfl (fun ls hl => ?_)
  refine lv_iload_n hx hb dX1_makeShot_5 rfl (lv_at hl 0 rfl) ?_
  refine lv_if_ge (tgt := 11) hx hb dX1_makeShot_6 (by decide) (fun hc2 => ?_) (fun hc2 => ?_)
  · replace hf := it hc2 hf
    refine lv_aload_n hx hb dX1_makeShot_11 rfl (lv_at hl 1 rfl) ?_
    refine va_get hx hb hts n1_ hown hK hP 0 rfl rfl 4 (Nat.le_of_ble_eq_true rfl) k1_ (fun _ h => h) rfl dX1_makeShot_12 ?_
    refine lv_iconst (v := (2 : Int32)) hx hb dX1_makeShot_15 (by decide) ?_
    obtain ⟨q3, hq3, hf⟩ := ob hf
    refine cl_RV (As := [.int (2 : Int32)]) (rest := []) hF hP hD (c_X5_isMostly (a 10) (a 11) (a 12) 400 (2 : Int32) uA uM un ut q3 hq3) (cwV 1 hts gX1_makeShot_X5_isMostly rfl rfl rfl (by decide +kernel) ⟨(Nat.le_of_ble_eq_true rfl), (Nat.le_of_ble_eq_true rfl)⟩) [10, 11, 12] rfl (by decide) (va_recv hK hP (ci := 5) (q0 := 10) rfl rfl) rfl rfl hl.1 (Nat.le_of_ble_eq_true rfl) dX1_makeShot_16 ⟨Nat.zero_le _, Nat.zero_le _⟩ ?_
    refine lv_if_eq (tgt := 26) hx hb dX1_makeShot_19 (by decide) (fun hc4 => ?_) (fun hc4 => ?_)
    · replace hf := it hc4 hf
      refine lv_iconst (v := (0 : Int32)) hx hb dX1_makeShot_26 (by decide) ?_
      exact J27 q1 (0 : Int32) d0 w0 k0 d1 w1 k1 un ut sF sk sm se br nr H locs hP hD hS ls (lv_sub hl [1, 0] rfl) hf
    · replace hf := ie hc4 hf
      refine lv_iconst (v := (1 : Int32)) hx hb dX1_makeShot_22 (by decide) ?_
      refine lv_goto (tgt := 27) hx hb dX1_makeShot_23 (by decide) ?_
      exact J27 q1 (1 : Int32) d0 w0 k0 d1 w1 k1 un ut sF sk sm se br nr H locs hP hD hS ls (lv_sub hl [1, 0] rfl) hf
  · replace hf := ie hc2 hf
    refine lv_iload_n hx hb dX1_makeShot_9 rfl (lv_at hl 0 rfl) ?_
    obtain rfl := Option.some.inj hf
    exact ret 10 ls _ H locs dX1_makeShot_10 rfl rfl hP hS
noncomputable def f_X1_emptyChute (qn : Int32) (qt : Int32) (pu : Int32) : Option (Int32 × Int32 × Int32 × Int32) := (f_X5_clear 106 qn qt).bind fun q1 => lt ((pu + qt)) fun v2 => some (qt, q1.1, q1.2, v2)
abbrev rmX1_emptyChute : Room := { frames := 2, cells := 0, slots := 0, locals := 20 }
set_option maxHeartbeats 4000000 in
set_option maxRecDepth 100000 in
theorem c_X1_emptyChute (gh : Nat) (a : Nat → Nat) (pA : Nat → Int32) (pM : Nat → Int32) (pn : Int32) (pt : Int32) (d0 : Int32) (w0 : Int32) (g0 : Int32) (k0 : Int32) (d1 : Int32) (w1 : Int32) (g1 : Int32) (k1 : Int32) (qA : Nat → Int32) (qM : Nat → Int32) (qn : Int32) (qt : Int32) (uA : Nat → Int32) (uM : Nat → Int32) (un : Int32) (ut : Int32) (sF : Nat → Int32) (sk : Int32) (sm : Int32) (st : Nat → Int32) (se : Int32) (fi : Int32) (gr : Int32) (br : Int32) (pu : Int32) (nr : Int32) (R : Int32 × Int32 × Int32 × Int32) (hf : f_X1_emptyChute qn qt pu = some R) : WrI l yX1_emptyChute wsX1_emptyChute rmX1_emptyChute D cI cC (w_grinder cI cC gh a pA pM pn pt d0 w0 g0 k0 d1 w1 g1 k1 qA qM qn qt uA uM un ut sF sk sm st se fi gr br pu nr) (w_grinder cI cC gh a pA pM pn pt d0 w0 g0 k0 d1 w1 g1 k1 qA qM R.2.1 R.2.2.1 uA uM un ut sF sk sm st se fi gr br R.2.2.2 nr) [.ref gh] R.1 := by
  refine en_W (cc := cX1_emptyChute) (n := 2) (by decide) rfl (Nat.le_of_ble_eq_true rfl) ?_
  intro p e s m args below meth c Q AA ls hx hb hml hown hts hK hN hP hD hS hl ret
  have hown : s.vm.findClass RX1 = some m.cls := hown
  have hF : FX p m c cX1_emptyChute 2 s args wsX1_emptyChute RX1 D cI cC := ⟨⟨hx, hb, hml, hown, hts⟩, hK, hN⟩
  have hl : lv_has ls 2 [(0, .ref gh)] := hl
  have k1_ := hts (.fieldLink RX1 33 "DriftGrinders$Grinder" "chute" "LDriftGrinders$Row;") (List.mem_of_getElem? (i := 1) rfl)
  have k2_ := hts (.fieldLink RX1 83 "DriftGrinders$Grinder" "purged" "I") (List.mem_of_getElem? (i := 2) rfl)
  have n1_ : ∀ w ∈ wsX10, w ∈ wsX1_emptyChute := fun _ h => List.mem_cons_of_mem _ (List.mem_append_left _ (List.mem_append_right _ h))
  have n5_ : ∀ w ∈ wsX50, w ∈ wsX1_emptyChute := fun _ h => List.mem_cons_of_mem _ (List.mem_append_right _ h)
  rw [f_X1_emptyChute] at hf
  obtain ⟨H, hH⟩ : ∃ z : Heap, z = s.heap := ⟨_, rfl⟩
  obtain ⟨locs, hL⟩ : ∃ z : List Loc, z = [] := ⟨_, rfl⟩
  replace hP := hH ▸ hP
  replace hS : va_S AA s.heap H locs := by rw [hH, hL]; exact hS
  suffices hgoal : W p l e rmX1_emptyChute s m args below meth c H locs 0 0 Q (F0 m 0 ls []) by rw [hH, hL] at hgoal; exact hgoal
  clear hH hL
  refine lv_aload_n hx hb dX1_emptyChute_0 rfl (lv_at hl 0 rfl) ?_
  refine va_get hx hb hts n1_ hown hK hP 0 rfl rfl 3 (Nat.le_of_ble_eq_true rfl) k1_ (fun _ h => h) rfl dX1_emptyChute_1 ?_
  refine va_getN hx hb hts n5_ hown hK hP 7 rfl rfl 3 (Nat.le_of_ble_eq_true rfl) (hN.get 3 rfl) (fun _ h => h) rfl dX1_emptyChute_4 ?_
  refine lv_istore_n (lv' := [(1, .int qt), (0, .ref gh)]) hx hb dX1_emptyChute_7 rfl hl (by decide) rfl (fun ls hl => ?_)
  refine lv_aload_n hx hb dX1_emptyChute_8 rfl (lv_at hl 1 rfl) ?_
  refine va_get hx hb hts n1_ hown hK hP 0 rfl rfl 3 (Nat.le_of_ble_eq_true rfl) k1_ (fun _ h => h) rfl dX1_emptyChute_9 ?_
  obtain ⟨q1, hq1, hf⟩ := ob hf
  refine cl_VV (As := []) (rest := []) hF hP hD hS (c_X5_clear (a 7) (a 8) (a 9) 106 qA qM qn qt q1 hq1) (cwV 0 hts gX1_emptyChute_X5_clear rfl rfl rfl (by decide +kernel) ⟨(Nat.le_of_ble_eq_true rfl), (Nat.le_of_ble_eq_true rfl)⟩) [7, 8, 9] rfl (by decide) (va_recv hK hP (ci := 5) (q0 := 7) rfl rfl) rfl rfl hl.1 (Nat.le_of_ble_eq_true rfl) dX1_emptyChute_12 ⟨Nat.zero_le _, Nat.zero_le _⟩ (hA2 [(a 7), (a 8), (a 9)] rfl rfl) (fun H locs hP hD hS => ?_)
  have hP : va_P D vwCl (w_grinder cI cC gh a pA pM pn pt d0 w0 g0 k0 d1 w1 g1 k1 qA qM q1.1 q1.2 uA uM un ut sF sk sm st se fi gr br pu nr) H := hP
  have hD : va_D AA (w_grinder cI cC gh a pA pM pn pt d0 w0 g0 k0 d1 w1 g1 k1 qA qM q1.1 q1.2 uA uM un ut sF sk sm st se fi gr br pu nr) := hD
  refine lv_aload_n hx hb dX1_emptyChute_15 rfl (lv_at hl 1 rfl) ?_
  refine lv_dup hx hb dX1_emptyChute_16 rfl ?_
  refine va_get hx hb hts n1_ hown hK hP 0 rfl rfl 11 (Nat.le_of_ble_eq_true rfl) k2_ (fun _ h => h) rfl dX1_emptyChute_17 ?_
  refine lv_iload_n hx hb dX1_emptyChute_20 rfl (lv_at hl 0 rfl) ?_
  refine lv_iadd hx hb dX1_emptyChute_21 ?_
  refine lv_topi (fun v2 ev2 => ?_)
  replace hf := lt_e ev2 hf
  refine va_put hx hb hts n1_ tyX1 tyX1_ok nmX1 hown hK hP hD hS 0 rfl rfl 11 (Nat.le_of_ble_eq_true rfl) k2_ (fun _ h => h) rfl (v := .int v2) (tyX1_ok 11 (Nat.le_of_ble_eq_true rfl)) rfl rfl (Nat.le_of_ble_eq_true rfl) dX1_emptyChute_22 (fun H locs hP hD hS => ?_)
  have hP : va_P D vwCl (w_grinder cI cC gh a pA pM pn pt d0 w0 g0 k0 d1 w1 g1 k1 qA qM q1.1 q1.2 uA uM un ut sF sk sm st se fi gr br v2 nr) H := hP
  have hD : va_D AA (w_grinder cI cC gh a pA pM pn pt d0 w0 g0 k0 d1 w1 g1 k1 qA qM q1.1 q1.2 uA uM un ut sF sk sm st se fi gr br v2 nr) := hD
  refine lv_iload_n hx hb dX1_emptyChute_25 rfl (lv_at hl 0 rfl) ?_
  obtain rfl := Option.some.inj hf
  exact ret 26 ls _ H locs dX1_emptyChute_26 rfl rfl hP hS
noncomputable def f_X1_correctByLatest (x1 : Int32) (d0 : Int32) (k0 : Int32) (d1 : Int32) (k1 : Int32) (sF : Nat → Int32) (sk : Int32) (st : Nat → Int32) : Option (Int32 × Int32 × Int32 × Int32 × Int32) := (f_X7_isZeroOrOne x1).bind fun q1 => (if q1 = 0 then some ((-1000001 : Int32), d0, k0, d1, k1) else (if (1 : Int32) ≤ sk then (if x1 = 0 then (f_X6_latestTime sF).bind fun q5 => (f_X0_correctBy q5 (st (0 : Int32).toNatClampNeg) d0 k0).bind fun q6 => some (q6.1, q6.1, q6.2, d1, k1) else (f_X6_latestTime sF).bind fun q7 => (f_X0_correctBy q7 (st (0 : Int32).toNatClampNeg) d1 k1).bind fun q8 => some (q8.1, d0, k0, q8.1, q8.2)) else some ((-1000002 : Int32), d0, k0, d1, k1)))
abbrev rmX1_correctByLatest : Room := { frames := 2, cells := 0, slots := 0, locals := 44 }
set_option maxHeartbeats 4000000 in
set_option maxRecDepth 100000 in
theorem c_X1_correctByLatest (gh : Nat) (a : Nat → Nat) (x1 : Int32) (pA : Nat → Int32) (pM : Nat → Int32) (pn : Int32) (pt : Int32) (d0 : Int32) (w0 : Int32) (g0 : Int32) (k0 : Int32) (d1 : Int32) (w1 : Int32) (g1 : Int32) (k1 : Int32) (qA : Nat → Int32) (qM : Nat → Int32) (qn : Int32) (qt : Int32) (uA : Nat → Int32) (uM : Nat → Int32) (un : Int32) (ut : Int32) (sF : Nat → Int32) (sk : Int32) (sm : Int32) (st : Nat → Int32) (se : Int32) (fi : Int32) (gr : Int32) (br : Int32) (pu : Int32) (nr : Int32) (R : Int32 × Int32 × Int32 × Int32 × Int32) (hf : f_X1_correctByLatest x1 d0 k0 d1 k1 sF sk st = some R) : WrI l yX1_correctByLatest wsX1_correctByLatest rmX1_correctByLatest D cI cC (w_grinder cI cC gh a pA pM pn pt d0 w0 g0 k0 d1 w1 g1 k1 qA qM qn qt uA uM un ut sF sk sm st se fi gr br pu nr) (w_grinder cI cC gh a pA pM pn pt R.2.1 w0 g0 R.2.2.1 R.2.2.2.1 w1 g1 R.2.2.2.2 qA qM qn qt uA uM un ut sF sk sm st se fi gr br pu nr) [.ref gh, .int x1] R.1 := by
  refine en_W (cc := cX1_correctByLatest) (n := 3) (by decide) rfl (Nat.le_of_ble_eq_true rfl) ?_
  intro p e s m args below meth c Q AA ls hx hb hml hown hts hK hN hP hD hS hl ret
  have hown : s.vm.findClass RX1 = some m.cls := hown
  have hF : FX p m c cX1_correctByLatest 3 s args wsX1_correctByLatest RX1 D cI cC := ⟨⟨hx, hb, hml, hown, hts⟩, hK, hN⟩
  have hl : lv_has ls 3 [(0, .ref gh), (1, .int x1)] := hl
  have k1_ := hts (.constant RX1 93 (-1000001)) (List.mem_of_getElem? (i := 1) rfl)
  have k2_ := hts (.fieldLink RX1 43 "DriftGrinders$Grinder" "shots" "LDriftGrinders$Shots;") (List.mem_of_getElem? (i := 2) rfl)
  have k3_ := hts (.constant RX1 107 (-1000002)) (List.mem_of_getElem? (i := 3) rfl)
  have k4_ := hts (.fieldLink RX1 47 "DriftGrinders$Grinder" "settings" "[I") (List.mem_of_getElem? (i := 4) rfl)
  have k5_ := hts (.static yX7_isZeroOrOne) (List.mem_of_getElem? (i := 5) rfl)
  have k6_ := hts (.initialized RX7) (List.mem_of_getElem? (i := 6) rfl)
  have n0_ : ∀ w ∈ wsX00, w ∈ wsX1_correctByLatest := fun _ h => List.mem_cons_of_mem _ (List.mem_append_right _ h)
  have n1_ : ∀ w ∈ wsX10, w ∈ wsX1_correctByLatest := fun _ h => List.mem_cons_of_mem _ (List.mem_append_left _ (List.mem_append_left _ (List.mem_append_right _ h)))
  have n6_ : ∀ w ∈ wsX60, w ∈ wsX1_correctByLatest := fun _ h => List.mem_cons_of_mem _ (List.mem_append_left _ (List.mem_append_right _ h))
  rw [f_X1_correctByLatest] at hf
  obtain ⟨H, hH⟩ : ∃ z : Heap, z = s.heap := ⟨_, rfl⟩
  obtain ⟨locs, hL⟩ : ∃ z : List Loc, z = [] := ⟨_, rfl⟩
  replace hP := hH ▸ hP
  replace hS : va_S AA s.heap H locs := by rw [hH, hL]; exact hS
  suffices hgoal : W p l e rmX1_correctByLatest s m args below meth c H locs 0 0 Q (F0 m 0 ls []) by rw [hH, hL] at hgoal; exact hgoal
  clear hH hL
  refine lv_iload_n hx hb dX1_correctByLatest_0 rfl (lv_at hl 1 rfl) ?_
  obtain ⟨q1, hq1, hf⟩ := ob hf
  refine cl_RN (As := [.int x1]) (rest := []) hF hP hD (c_X7_isZeroOrOne x1 q1 hq1) ⟨va_cnB 1 hts gX1_correctByLatest_X7_isZeroOrOne_n89 rfl rfl rfl (hN.nw 25 rfl) k6_ (by decide +kernel) ⟨(Nat.le_of_ble_eq_true rfl), (Nat.le_of_ble_eq_true rfl)⟩, k5_, trivial⟩ [] rfl (by decide) rfl rfl hl.1 (Nat.le_of_ble_eq_true rfl) dX1_correctByLatest_1 ⟨Nat.zero_le _, Nat.zero_le _⟩ ?_
  refine lv_if_ne (tgt := 10) hx hb dX1_correctByLatest_4 (by decide) (fun hc2 => ?_) (fun hc2 => ?_)
  · replace hf := ie hc2 hf
    refine lv_aload_n hx hb dX1_correctByLatest_10 rfl (lv_at hl 0 rfl) ?_
    refine va_get hx hb hts n1_ hown hK hP 0 rfl rfl 5 (Nat.le_of_ble_eq_true rfl) k2_ (fun _ h => h) rfl dX1_correctByLatest_11 ?_
    refine va_getN hx hb hts n6_ hown hK hP 13 rfl rfl 1 (Nat.le_of_ble_eq_true rfl) (hN.get 6 rfl) (fun _ h => h) rfl dX1_correctByLatest_14 ?_
    refine lv_iconst (v := (1 : Int32)) hx hb dX1_correctByLatest_17 (by decide) ?_
    refine lv_icmp_ge (tgt := 24) hx hb dX1_correctByLatest_18 (by decide) (fun hc3 => ?_) (fun hc3 => ?_)
    · replace hf := it hc3 hf
      refine lv_aload_n hx hb dX1_correctByLatest_24 rfl (lv_at hl 0 rfl) ?_
      refine lv_iload_n hx hb dX1_correctByLatest_25 rfl (lv_at hl 1 rfl) ?_
      by_cases hc4 : x1 = 0
      · replace hf := it hc4 hf
        refine cl_AV (As := [.int x1]) (rest := []) hF hP hD (c_X1_burrNumbered_0 gh a x1 pA pM pn pt d0 w0 g0 k0 d1 w1 g1 k1 qA qM qn qt uA uM un ut sF sk sm st se fi gr br pu nr hc4) (cwV 1 hts gX1_correctByLatest_X1_burrNumbered rfl rfl rfl (by decide +kernel) ⟨(Nat.le_of_ble_eq_true rfl), (Nat.le_of_ble_eq_true rfl)⟩) [0, 1, 2, 3, 4, 5, 6, 7, 8, 9, 10, 11, 12, 13, 14, 15] rfl (by decide) (va_recv hK hP (ci := 1) (q0 := 0) rfl rfl) rfl rfl hl.1 (Nat.le_of_ble_eq_true rfl) dX1_correctByLatest_26 ⟨Nat.zero_le _, Nat.zero_le _⟩ ?_
        refine lv_astore_n (lv' := [(2, .ref (a 5)), (0, .ref gh), (1, .int x1)]) hx hb dX1_correctByLatest_29 rfl hl (by decide) rfl (fun ls hl => ?_)
        refine lv_aload_n hx hb dX1_correctByLatest_30 rfl (lv_at hl 0 rfl) ?_
        refine lv_aload_n hx hb dX1_correctByLatest_31 rfl (lv_at hl 1 rfl) ?_
        refine va_get hx hb hts n1_ hown hK hP 0 rfl rfl 5 (Nat.le_of_ble_eq_true rfl) k2_ (fun _ h => h) rfl dX1_correctByLatest_32 ?_
        obtain ⟨q5, hq5, hf⟩ := ob hf
        refine cl_RV (As := []) (rest := [.ref (a 5)]) hF hP hD (c_X6_latestTime (a 13) (a 14) sF sk sm q5 hq5) (cwV 0 hts gX1_correctByLatest_X6_latestTime rfl rfl rfl (by decide +kernel) ⟨(Nat.le_of_ble_eq_true rfl), (Nat.le_of_ble_eq_true rfl)⟩) [13, 14] rfl (by decide) (va_recv hK hP (ci := 6) (q0 := 13) rfl rfl) rfl rfl hl.1 (Nat.le_of_ble_eq_true rfl) dX1_correctByLatest_35 ⟨Nat.zero_le _, Nat.zero_le _⟩ ?_
        refine lv_aload_n hx hb dX1_correctByLatest_38 rfl (lv_at hl 1 rfl) ?_
        refine va_get hx hb hts n1_ hown hK hP 0 rfl rfl 6 (Nat.le_of_ble_eq_true rfl) k4_ (fun _ h => h) rfl dX1_correctByLatest_39 ?_
        refine lv_iconst (v := (0 : Int32)) hx hb dX1_correctByLatest_42 (by decide) ?_
        refine va_iald hx hb hK hP 15 0 rfl rfl (show ¬ ((0 : Int32) < 0 ∨ 6 ≤ (0 : Int32).toNatClampNeg) by decide) dX1_correctByLatest_43 ?_
        obtain ⟨q6, hq6, hf⟩ := ob hf
        refine cl_VV (As := [.int q5, .int (st (0 : Int32).toNatClampNeg)]) (rest := []) hF hP hD hS (c_X0_correctBy (a 5) q5 (st (0 : Int32).toNatClampNeg) d0 w0 g0 k0 q6 hq6) (cwV 2 hts gX1_correctByLatest_X0_correctBy rfl rfl rfl (by decide +kernel) ⟨(Nat.le_of_ble_eq_true rfl), (Nat.le_of_ble_eq_true rfl)⟩) [5] rfl (by decide) (va_recv hK hP (ci := 0) (q0 := 5) rfl rfl) rfl rfl hl.1 (Nat.le_of_ble_eq_true rfl) dX1_correctByLatest_44 ⟨Nat.zero_le _, Nat.zero_le _⟩ (hA2 [(a 5)] rfl rfl) (fun H locs hP hD hS => ?_)
        have hP : va_P D vwCl (w_grinder cI cC gh a pA pM pn pt q6.1 w0 g0 q6.2 d1 w1 g1 k1 qA qM qn qt uA uM un ut sF sk sm st se fi gr br pu nr) H := hP
        have hD : va_D AA (w_grinder cI cC gh a pA pM pn pt q6.1 w0 g0 q6.2 d1 w1 g1 k1 qA qM qn qt uA uM un ut sF sk sm st se fi gr br pu nr) := hD
        refine lv_aload_n hx hb dX1_correctByLatest_47 rfl (lv_at hl 0 rfl) ?_
        refine va_getN hx hb hts n0_ hown hK hP 5 rfl rfl 0 (Nat.le_of_ble_eq_true rfl) (hN.get 4 rfl) (fun _ h => h) rfl dX1_correctByLatest_48 ?_
        obtain rfl := Option.some.inj hf
        exact ret 51 ls _ H locs dX1_correctByLatest_51 rfl rfl hP hS
      · replace hf := ie hc4 hf
        refine cl_AV (As := [.int x1]) (rest := []) hF hP hD (c_X1_burrNumbered_1 gh a x1 pA pM pn pt d0 w0 g0 k0 d1 w1 g1 k1 qA qM qn qt uA uM un ut sF sk sm st se fi gr br pu nr hc4) (cwV 1 hts gX1_correctByLatest_X1_burrNumbered rfl rfl rfl (by decide +kernel) ⟨(Nat.le_of_ble_eq_true rfl), (Nat.le_of_ble_eq_true rfl)⟩) [0, 1, 2, 3, 4, 5, 6, 7, 8, 9, 10, 11, 12, 13, 14, 15] rfl (by decide) (va_recv hK hP (ci := 1) (q0 := 0) rfl rfl) rfl rfl hl.1 (Nat.le_of_ble_eq_true rfl) dX1_correctByLatest_26 ⟨Nat.zero_le _, Nat.zero_le _⟩ ?_
        refine lv_astore_n (lv' := [(2, .ref (a 6)), (0, .ref gh), (1, .int x1)]) hx hb dX1_correctByLatest_29 rfl hl (by decide) rfl (fun ls hl => ?_)
        refine lv_aload_n hx hb dX1_correctByLatest_30 rfl (lv_at hl 0 rfl) ?_
        refine lv_aload_n hx hb dX1_correctByLatest_31 rfl (lv_at hl 1 rfl) ?_
        refine va_get hx hb hts n1_ hown hK hP 0 rfl rfl 5 (Nat.le_of_ble_eq_true rfl) k2_ (fun _ h => h) rfl dX1_correctByLatest_32 ?_
        obtain ⟨q7, hq7, hf⟩ := ob hf
        refine cl_RV (As := []) (rest := [.ref (a 6)]) hF hP hD (c_X6_latestTime (a 13) (a 14) sF sk sm q7 hq7) (cwV 0 hts gX1_correctByLatest_X6_latestTime rfl rfl rfl (by decide +kernel) ⟨(Nat.le_of_ble_eq_true rfl), (Nat.le_of_ble_eq_true rfl)⟩) [13, 14] rfl (by decide) (va_recv hK hP (ci := 6) (q0 := 13) rfl rfl) rfl rfl hl.1 (Nat.le_of_ble_eq_true rfl) dX1_correctByLatest_35 ⟨Nat.zero_le _, Nat.zero_le _⟩ ?_
        refine lv_aload_n hx hb dX1_correctByLatest_38 rfl (lv_at hl 1 rfl) ?_
        refine va_get hx hb hts n1_ hown hK hP 0 rfl rfl 6 (Nat.le_of_ble_eq_true rfl) k4_ (fun _ h => h) rfl dX1_correctByLatest_39 ?_
        refine lv_iconst (v := (0 : Int32)) hx hb dX1_correctByLatest_42 (by decide) ?_
        refine va_iald hx hb hK hP 15 0 rfl rfl (show ¬ ((0 : Int32) < 0 ∨ 6 ≤ (0 : Int32).toNatClampNeg) by decide) dX1_correctByLatest_43 ?_
        obtain ⟨q8, hq8, hf⟩ := ob hf
        refine cl_VV (As := [.int q7, .int (st (0 : Int32).toNatClampNeg)]) (rest := []) hF hP hD hS (c_X0_correctBy (a 6) q7 (st (0 : Int32).toNatClampNeg) d1 w1 g1 k1 q8 hq8) (cwV 2 hts gX1_correctByLatest_X0_correctBy rfl rfl rfl (by decide +kernel) ⟨(Nat.le_of_ble_eq_true rfl), (Nat.le_of_ble_eq_true rfl)⟩) [6] rfl (by decide) (va_recv hK hP (ci := 0) (q0 := 6) rfl rfl) rfl rfl hl.1 (Nat.le_of_ble_eq_true rfl) dX1_correctByLatest_44 ⟨Nat.zero_le _, Nat.zero_le _⟩ (hA2 [(a 6)] rfl rfl) (fun H locs hP hD hS => ?_)
        have hP : va_P D vwCl (w_grinder cI cC gh a pA pM pn pt d0 w0 g0 k0 q8.1 w1 g1 q8.2 qA qM qn qt uA uM un ut sF sk sm st se fi gr br pu nr) H := hP
        have hD : va_D AA (w_grinder cI cC gh a pA pM pn pt d0 w0 g0 k0 q8.1 w1 g1 q8.2 qA qM qn qt uA uM un ut sF sk sm st se fi gr br pu nr) := hD
        refine lv_aload_n hx hb dX1_correctByLatest_47 rfl (lv_at hl 0 rfl) ?_
        refine va_getN hx hb hts n0_ hown hK hP 6 rfl rfl 0 (Nat.le_of_ble_eq_true rfl) (hN.get 4 rfl) (fun _ h => h) rfl dX1_correctByLatest_48 ?_
        obtain rfl := Option.some.inj hf
        exact ret 51 ls _ H locs dX1_correctByLatest_51 rfl rfl hP hS
    · replace hf := ie hc3 hf
      refine lv_ldc hx hb hown k3_ dX1_correctByLatest_21 ?_
      obtain rfl := Option.some.inj hf
      exact ret 23 ls _ H locs dX1_correctByLatest_23 rfl rfl hP hS
  · replace hf := it hc2 hf
    refine lv_ldc hx hb hown k1_ dX1_correctByLatest_7 ?_
    obtain rfl := Option.some.inj hf
    exact ret 9 ls _ H locs dX1_correctByLatest_9 rfl rfl hP hS
noncomputable def f_X1_changeSetting (x1 : Int32) (x2 : Int32) (st : Nat → Int32) : Option (Int32 × (Nat → Int32)) := (if x1 < 0 then some ((-1000001 : Int32), st) else (if (6 : Int32) ≤ x1 then some ((-1000001 : Int32), st) else gd (¬ (x1 < 0 ∨ 6 ≤ x1.toNatClampNeg)) ((if x2 < (tbL x1.toNatClampNeg) then some ((-1000001 : Int32), st) else gd (¬ (x1 < 0 ∨ 6 ≤ x1.toNatClampNeg)) ((if x2 ≤ (tbM x1.toNatClampNeg) then gd (¬ (x1 < 0 ∨ 6 ≤ x1.toNatClampNeg)) (lt ((st x1.toNatClampNeg)) fun v8 => gd (¬ (x1 < 0 ∨ 6 ≤ x1.toNatClampNeg)) (lt (upd st x1.toNatClampNeg x2) fun Z10 => some (v8, Z10))) else some ((-1000001 : Int32), st)))))))
abbrev rmX1_changeSetting : Room := { frames := 1, cells := 0, slots := 0, locals := 0 }
set_option maxHeartbeats 4000000 in
set_option maxRecDepth 100000 in
theorem c_X1_changeSetting (gh : Nat) (a : Nat → Nat) (x1 : Int32) (x2 : Int32) (pA : Nat → Int32) (pM : Nat → Int32) (pn : Int32) (pt : Int32) (d0 : Int32) (w0 : Int32) (g0 : Int32) (k0 : Int32) (d1 : Int32) (w1 : Int32) (g1 : Int32) (k1 : Int32) (qA : Nat → Int32) (qM : Nat → Int32) (qn : Int32) (qt : Int32) (uA : Nat → Int32) (uM : Nat → Int32) (un : Int32) (ut : Int32) (sF : Nat → Int32) (sk : Int32) (sm : Int32) (st : Nat → Int32) (se : Int32) (fi : Int32) (gr : Int32) (br : Int32) (pu : Int32) (nr : Int32) (R : Int32 × (Nat → Int32)) (hf : f_X1_changeSetting x1 x2 st = some R) : WrIS l yX1_changeSetting wsX1_changeSetting rmX1_changeSetting D cI cC (w_grinder cI cC gh a pA pM pn pt d0 w0 g0 k0 d1 w1 g1 k1 qA qM qn qt uA uM un ut sF sk sm st se fi gr br pu nr) (w_grinder cI cC gh a pA pM pn pt d0 w0 g0 k0 d1 w1 g1 k1 qA qM qn qt uA uM un ut sF sk sm R.2 se fi gr br pu nr) [.ref gh, .int x1, .int x2] R.1 := by
  refine en_WS (cc := cX1_changeSetting) (n := 4) (by decide) rfl (Nat.le_of_ble_eq_true rfl) ?_
  intro p e s m args below meth c Q AA ls hx hb hml hown hts hK hN hP hD hS hST hl ret
  obtain ⟨tl, tm, hZl, hTl, hZm, hTm⟩ := hST
  have hown : s.vm.findClass RX1 = some m.cls := hown
  have hF : FX p m c cX1_changeSetting 4 s args wsX1_changeSetting RX1 D cI cC := ⟨⟨hx, hb, hml, hown, hts⟩, hK, hN⟩
  have hl : lv_has ls 4 [(0, .ref gh), (1, .int x1), (2, .int x2)] := hl
  have k1_ := hts (.fieldLink RX1 47 "DriftGrinders$Grinder" "settings" "[I") (List.mem_of_getElem? (i := 1) rfl)
  have k2_ := hts (.constant RX1 93 (-1000001)) (List.mem_of_getElem? (i := 2) rfl)
  have n1_ : ∀ w ∈ wsX10, w ∈ wsX1_changeSetting := fun _ h => List.mem_cons_of_mem _ (List.mem_append_right _ h)
  rw [f_X1_changeSetting] at hf
  obtain ⟨H, hH⟩ : ∃ z : Heap, z = s.heap := ⟨_, rfl⟩
  obtain ⟨locs, hL⟩ : ∃ z : List Loc, z = [] := ⟨_, rfl⟩
  replace hP := hH ▸ hP
  replace hS : va_S AA s.heap H locs := by rw [hH, hL]; exact hS
  suffices hgoal : W p l e rmX1_changeSetting s m args below meth c H locs 0 0 Q (F0 m 0 ls []) by rw [hH, hL] at hgoal; exact hgoal
  clear hH hL
  refine lv_iload_n hx hb dX1_changeSetting_0 rfl (lv_at hl 1 rfl) ?_
  refine lv_if_lt (tgt := 31) hx hb dX1_changeSetting_1 (by decide) (fun hc1 => ?_) (fun hc1 => ?_)
  · replace hf := it hc1 hf
    refine lv_ldc hx hb hown k2_ dX1_changeSetting_31 ?_
    obtain rfl := Option.some.inj hf
    exact ret 33 ls _ H locs dX1_changeSetting_33 rfl rfl hP hS
  · replace hf := ie hc1 hf
    refine lv_iload_n hx hb dX1_changeSetting_4 rfl (lv_at hl 1 rfl) ?_
    refine lv_aload_n hx hb dX1_changeSetting_5 rfl (lv_at hl 0 rfl) ?_
    refine va_get hx hb hts n1_ hown hK hP 0 rfl rfl 6 (Nat.le_of_ble_eq_true rfl) k1_ (fun _ h => h) rfl dX1_changeSetting_6 ?_
    refine va_alen hx hb hK hP 15 0 rfl rfl (v := (6 : Int32)) rfl dX1_changeSetting_9 ?_
    refine lv_icmp_ge (tgt := 31) hx hb dX1_changeSetting_10 (by decide) (fun hc2 => ?_) (fun hc2 => ?_)
    · replace hf := it hc2 hf
      refine lv_ldc hx hb hown k2_ dX1_changeSetting_31 ?_
      obtain rfl := Option.some.inj hf
      exact ret 33 ls _ H locs dX1_changeSetting_33 rfl rfl hP hS
    · replace hf := ie hc2 hf
      refine lv_iload_n hx hb dX1_changeSetting_13 rfl (lv_at hl 2 rfl) ?_
      refine va_getsN hx hb hZl hS hown (hN.get 16 rfl) (fun _ h => h) dX1_changeSetting_14 ?_
      refine lv_iload_n hx hb dX1_changeSetting_17 rfl (lv_at hl 1 rfl) ?_
      obtain ⟨hg3, hf⟩ := gd_s hf
      refine va_ti hx hb hTl hS hg3 (v := .int (tbL x1.toNatClampNeg)) rfl dX1_changeSetting_18 ?_
      refine lv_icmp_lt (tgt := 31) hx hb dX1_changeSetting_19 (by decide) (fun hc4 => ?_) (fun hc4 => ?_)
      · replace hf := it hc4 hf
        refine lv_ldc hx hb hown k2_ dX1_changeSetting_31 ?_
        obtain rfl := Option.some.inj hf
        exact ret 33 ls _ H locs dX1_changeSetting_33 rfl rfl hP hS
      · replace hf := ie hc4 hf
        refine lv_iload_n hx hb dX1_changeSetting_22 rfl (lv_at hl 2 rfl) ?_
        refine va_getsN hx hb hZm hS hown (hN.get 17 rfl) (fun _ h => h) dX1_changeSetting_23 ?_
        refine lv_iload_n hx hb dX1_changeSetting_26 rfl (lv_at hl 1 rfl) ?_
        obtain ⟨hg5, hf⟩ := gd_s hf
        refine va_ti hx hb hTm hS hg5 (v := .int (tbM x1.toNatClampNeg)) rfl dX1_changeSetting_27 ?_
        refine lv_icmp_le (tgt := 34) hx hb dX1_changeSetting_28 (by decide) (fun hc6 => ?_) (fun hc6 => ?_)
        · replace hf := it hc6 hf
          refine lv_aload_n hx hb dX1_changeSetting_34 rfl (lv_at hl 0 rfl) ?_
          refine va_get hx hb hts n1_ hown hK hP 0 rfl rfl 6 (Nat.le_of_ble_eq_true rfl) k1_ (fun _ h => h) rfl dX1_changeSetting_35 ?_
          refine lv_iload_n hx hb dX1_changeSetting_38 rfl (lv_at hl 1 rfl) ?_
          obtain ⟨hg7, hf⟩ := gd_s hf
          refine va_iald hx hb hK hP 15 0 rfl rfl hg7 dX1_changeSetting_39 ?_
          refine lv_topi (fun v8 ev8 => ?_)
          replace hf := lt_e ev8 hf
          refine lv_istore_n (lv' := [(3, .int v8), (0, .ref gh), (1, .int x1), (2, .int x2)]) hx hb dX1_changeSetting_40 rfl hl (by decide) rfl (fun ls hl => ?_)
          refine lv_aload_n hx hb dX1_changeSetting_41 rfl (lv_at hl 1 rfl) ?_
          refine va_get hx hb hts n1_ hown hK hP 0 rfl rfl 6 (Nat.le_of_ble_eq_true rfl) k1_ (fun _ h => h) rfl dX1_changeSetting_42 ?_
          refine lv_iload_n hx hb dX1_changeSetting_45 rfl (lv_at hl 2 rfl) ?_
          refine lv_iload_n hx hb dX1_changeSetting_46 rfl (lv_at hl 3 rfl) ?_
          obtain ⟨hg9, hf⟩ := gd_s hf
          refine x_iast hx hb hK hP hD hS 15 0 rfl rfl hg9 dX1_changeSetting_47 (fun Z10 H locs eZ10 hP hD hS => ?_)
          replace hf := lt_e eZ10 hf
          have hP : va_P D vwCl (w_grinder cI cC gh a pA pM pn pt d0 w0 g0 k0 d1 w1 g1 k1 qA qM qn qt uA uM un ut sF sk sm Z10 se fi gr br pu nr) H := hP
          have hD : va_D AA (w_grinder cI cC gh a pA pM pn pt d0 w0 g0 k0 d1 w1 g1 k1 qA qM qn qt uA uM un ut sF sk sm Z10 se fi gr br pu nr) := hD
          refine lv_iload_n hx hb dX1_changeSetting_48 rfl (lv_at hl 0 rfl) ?_
          obtain rfl := Option.some.inj hf
          exact ret 49 ls _ H locs dX1_changeSetting_49 rfl rfl hP hS
        · replace hf := ie hc6 hf
          refine lv_ldc hx hb hown k2_ dX1_changeSetting_31 ?_
          obtain rfl := Option.some.inj hf
          exact ret 33 ls _ H locs dX1_changeSetting_33 rfl rfl hP hS
noncomputable def f_X1_tellSetting (x1 : Int32) (st : Nat → Int32) : Option (Int32) := (if x1 < (20 : Int32) then some (-1000001 : Int32) else (if x1 < ((20 : Int32) + (6 : Int32)) then gd (¬ ((x1 - (20 : Int32)) < 0 ∨ 6 ≤ (x1 - (20 : Int32)).toNatClampNeg)) (some (st (x1 - (20 : Int32)).toNatClampNeg)) else some (-1000001 : Int32)))
abbrev rmX1_tellSetting : Room := { frames := 1, cells := 0, slots := 0, locals := 0 }
set_option maxHeartbeats 4000000 in
set_option maxRecDepth 100000 in
theorem c_X1_tellSetting (gh : Nat) (a : Nat → Nat) (x1 : Int32) (pA : Nat → Int32) (pM : Nat → Int32) (pn : Int32) (pt : Int32) (d0 : Int32) (w0 : Int32) (g0 : Int32) (k0 : Int32) (d1 : Int32) (w1 : Int32) (g1 : Int32) (k1 : Int32) (qA : Nat → Int32) (qM : Nat → Int32) (qn : Int32) (qt : Int32) (uA : Nat → Int32) (uM : Nat → Int32) (un : Int32) (ut : Int32) (sF : Nat → Int32) (sk : Int32) (sm : Int32) (st : Nat → Int32) (se : Int32) (fi : Int32) (gr : Int32) (br : Int32) (pu : Int32) (nr : Int32) (R : Int32) (hf : f_X1_tellSetting x1 st = some R) : RdI l yX1_tellSetting wsX1_tellSetting rmX1_tellSetting D cI cC (w_grinder cI cC gh a pA pM pn pt d0 w0 g0 k0 d1 w1 g1 k1 qA qM qn qt uA uM un ut sF sk sm st se fi gr br pu nr) [.ref gh, .int x1] R := by
  refine en_R (cc := cX1_tellSetting) (n := 2) (by decide) rfl (Nat.le_of_ble_eq_true rfl) ?_
  intro p e s m args below meth c Q AA ls hx hb hml hown hts hK hN hP hD hl ret
  have hown : s.vm.findClass RX1 = some m.cls := hown
  have hF : FX p m c cX1_tellSetting 2 s args wsX1_tellSetting RX1 D cI cC := ⟨⟨hx, hb, hml, hown, hts⟩, hK, hN⟩
  have hl : lv_has ls 2 [(0, .ref gh), (1, .int x1)] := hl
  have k1_ := hts (.fieldLink RX1 47 "DriftGrinders$Grinder" "settings" "[I") (List.mem_of_getElem? (i := 1) rfl)
  have k2_ := hts (.constant RX1 93 (-1000001)) (List.mem_of_getElem? (i := 2) rfl)
  have n1_ : ∀ w ∈ wsX10, w ∈ wsX1_tellSetting := fun _ h => List.mem_cons_of_mem _ (List.mem_append_right _ h)
  rw [f_X1_tellSetting] at hf
  refine lv_iload_n hx hb dX1_tellSetting_0 rfl (lv_at hl 1 rfl) ?_
  refine lv_bipush (v := (20 : Int32)) hx hb dX1_tellSetting_1 (by decide) ?_
  refine lv_icmp_lt (tgt := 18) hx hb dX1_tellSetting_3 (by decide) (fun hc1 => ?_) (fun hc1 => ?_)
  · replace hf := it hc1 hf
    refine lv_ldc hx hb hown k2_ dX1_tellSetting_18 ?_
    obtain rfl := Option.some.inj hf
    exact ret 20 ls _ dX1_tellSetting_20 rfl rfl
  · replace hf := ie hc1 hf
    refine lv_iload_n hx hb dX1_tellSetting_6 rfl (lv_at hl 1 rfl) ?_
    refine lv_bipush (v := (20 : Int32)) hx hb dX1_tellSetting_7 (by decide) ?_
    refine lv_aload_n hx hb dX1_tellSetting_9 rfl (lv_at hl 0 rfl) ?_
    refine va_get hx hb hts n1_ hown hK hP 0 rfl rfl 6 (Nat.le_of_ble_eq_true rfl) k1_ (fun _ h => h) rfl dX1_tellSetting_10 ?_
    refine va_alen hx hb hK hP 15 0 rfl rfl (v := (6 : Int32)) rfl dX1_tellSetting_13 ?_
    refine lv_iadd hx hb dX1_tellSetting_14 ?_
    refine lv_icmp_lt (tgt := 21) hx hb dX1_tellSetting_15 (by decide) (fun hc2 => ?_) (fun hc2 => ?_)
    · replace hf := it hc2 hf
      refine lv_aload_n hx hb dX1_tellSetting_21 rfl (lv_at hl 0 rfl) ?_
      refine va_get hx hb hts n1_ hown hK hP 0 rfl rfl 6 (Nat.le_of_ble_eq_true rfl) k1_ (fun _ h => h) rfl dX1_tellSetting_22 ?_
      refine lv_iload_n hx hb dX1_tellSetting_25 rfl (lv_at hl 1 rfl) ?_
      refine lv_bipush (v := (20 : Int32)) hx hb dX1_tellSetting_26 (by decide) ?_
      refine lv_isub hx hb dX1_tellSetting_28 ?_
      obtain ⟨hg3, hf⟩ := gd_s hf
      refine va_iald hx hb hK hP 15 0 rfl rfl hg3 dX1_tellSetting_29 ?_
      obtain rfl := Option.some.inj hf
      exact ret 30 ls _ dX1_tellSetting_30 rfl rfl
    · replace hf := ie hc2 hf
      refine lv_ldc hx hb hown k2_ dX1_tellSetting_18 ?_
      obtain rfl := Option.some.inj hf
      exact ret 20 ls _ dX1_tellSetting_20 rfl rfl
noncomputable def f_X1_tell (x1 : Int32) (pt : Int32) (qt : Int32) (ut : Int32) (sm : Int32) (st : Nat → Int32) (se : Int32) (fi : Int32) (gr : Int32) (br : Int32) (pu : Int32) (nr : Int32) : Option (Int32) := (if x1 = 0 then some se else (if x1 = 1 then some fi else (if x1 = 2 then some gr else (if x1 = 3 then some br else (if x1 = 4 then some pu else (if x1 = 5 then (f_X3_amount 6 pt).bind fun q7 => some q7 else (if x1 = 6 then some qt else (if x1 = 7 then some ut else (if x1 = 8 then some sm else (if x1 = 9 then some nr else (f_X1_tellSetting x1 st).bind fun q12 => some q12))))))))))
abbrev rmX1_tell : Room := { frames := 2, cells := 0, slots := 0, locals := 21 }
set_option maxHeartbeats 4000000 in
set_option maxRecDepth 100000 in
theorem c_X1_tell (gh : Nat) (a : Nat → Nat) (x1 : Int32) (pA : Nat → Int32) (pM : Nat → Int32) (pn : Int32) (pt : Int32) (d0 : Int32) (w0 : Int32) (g0 : Int32) (k0 : Int32) (d1 : Int32) (w1 : Int32) (g1 : Int32) (k1 : Int32) (qA : Nat → Int32) (qM : Nat → Int32) (qn : Int32) (qt : Int32) (uA : Nat → Int32) (uM : Nat → Int32) (un : Int32) (ut : Int32) (sF : Nat → Int32) (sk : Int32) (sm : Int32) (st : Nat → Int32) (se : Int32) (fi : Int32) (gr : Int32) (br : Int32) (pu : Int32) (nr : Int32) (R : Int32) (hf : f_X1_tell x1 pt qt ut sm st se fi gr br pu nr = some R) : RdI l yX1_tell wsX1_tell rmX1_tell D cI cC (w_grinder cI cC gh a pA pM pn pt d0 w0 g0 k0 d1 w1 g1 k1 qA qM qn qt uA uM un ut sF sk sm st se fi gr br pu nr) [.ref gh, .int x1] R := by
  refine en_R (cc := cX1_tell) (n := 2) (by decide) rfl (Nat.le_of_ble_eq_true rfl) ?_
  intro p e s m args below meth c Q AA ls hx hb hml hown hts hK hN hP hD hl ret
  have hown : s.vm.findClass RX1 = some m.cls := hown
  have hF : FX p m c cX1_tell 2 s args wsX1_tell RX1 D cI cC := ⟨⟨hx, hb, hml, hown, hts⟩, hK, hN⟩
  have hl : lv_has ls 2 [(0, .ref gh), (1, .int x1)] := hl
  have k10_ := hts (.fieldLink RX1 86 "DriftGrinders$Grinder" "shotsNearTarget" "I") (List.mem_of_getElem? (i := 10) rfl)
  have k1_ := hts (.fieldLink RX1 70 "DriftGrinders$Grinder" "second" "I") (List.mem_of_getElem? (i := 1) rfl)
  have k2_ := hts (.fieldLink RX1 74 "DriftGrinders$Grinder" "filled" "I") (List.mem_of_getElem? (i := 2) rfl)
  have k3_ := hts (.fieldLink RX1 77 "DriftGrinders$Grinder" "ground" "I") (List.mem_of_getElem? (i := 3) rfl)
  have k4_ := hts (.fieldLink RX1 80 "DriftGrinders$Grinder" "brewed" "I") (List.mem_of_getElem? (i := 4) rfl)
  have k5_ := hts (.fieldLink RX1 83 "DriftGrinders$Grinder" "purged" "I") (List.mem_of_getElem? (i := 5) rfl)
  have k6_ := hts (.fieldLink RX1 12 "DriftGrinders$Grinder" "hopper" "LDriftGrinders$Hopper;") (List.mem_of_getElem? (i := 6) rfl)
  have k7_ := hts (.fieldLink RX1 33 "DriftGrinders$Grinder" "chute" "LDriftGrinders$Row;") (List.mem_of_getElem? (i := 7) rfl)
  have k8_ := hts (.fieldLink RX1 37 "DriftGrinders$Grinder" "basket" "LDriftGrinders$Row;") (List.mem_of_getElem? (i := 8) rfl)
  have k9_ := hts (.fieldLink RX1 43 "DriftGrinders$Grinder" "shots" "LDriftGrinders$Shots;") (List.mem_of_getElem? (i := 9) rfl)
  have n1_ : ∀ w ∈ wsX10, w ∈ wsX1_tell := fun _ h => List.mem_cons_of_mem _ (List.mem_append_left _ (List.mem_append_left _ (List.mem_append_left _ (List.mem_append_right _ h))))
  have n5_ : ∀ w ∈ wsX50, w ∈ wsX1_tell := fun _ h => List.mem_cons_of_mem _ (List.mem_append_left _ (List.mem_append_left _ (List.mem_append_right _ h)))
  have n6_ : ∀ w ∈ wsX60, w ∈ wsX1_tell := fun _ h => List.mem_cons_of_mem _ (List.mem_append_left _ (List.mem_append_right _ h))
  rw [f_X1_tell] at hf
  refine lv_iload_n hx hb dX1_tell_0 rfl (lv_at hl 1 rfl) ?_
  by_cases hc1 : x1 = 0
  · replace hf := it hc1 hf
    refine lv_tableIn (off := 55) (tgt := 56) hx hb dX1_tell_1 (by rw [hc1]; decide) (by rw [hc1]; decide) (by rw [hc1]; rfl) (by decide) ?_
    refine lv_aload_n hx hb dX1_tell_56 rfl (lv_at hl 0 rfl) ?_
    refine va_get hx hb hts n1_ hown hK hP 0 rfl rfl 7 (Nat.le_of_ble_eq_true rfl) k1_ (fun _ h => h) rfl dX1_tell_57 ?_
    obtain rfl := Option.some.inj hf
    exact ret 60 ls _ dX1_tell_60 rfl rfl
  replace hf := ie hc1 hf
  by_cases hc2 : x1 = 1
  · replace hf := it hc2 hf
    refine lv_tableIn (off := 60) (tgt := 61) hx hb dX1_tell_1 (by rw [hc2]; decide) (by rw [hc2]; decide) (by rw [hc2]; rfl) (by decide) ?_
    refine lv_aload_n hx hb dX1_tell_61 rfl (lv_at hl 0 rfl) ?_
    refine va_get hx hb hts n1_ hown hK hP 0 rfl rfl 8 (Nat.le_of_ble_eq_true rfl) k2_ (fun _ h => h) rfl dX1_tell_62 ?_
    obtain rfl := Option.some.inj hf
    exact ret 65 ls _ dX1_tell_65 rfl rfl
  replace hf := ie hc2 hf
  by_cases hc3 : x1 = 2
  · replace hf := it hc3 hf
    refine lv_tableIn (off := 65) (tgt := 66) hx hb dX1_tell_1 (by rw [hc3]; decide) (by rw [hc3]; decide) (by rw [hc3]; rfl) (by decide) ?_
    refine lv_aload_n hx hb dX1_tell_66 rfl (lv_at hl 0 rfl) ?_
    refine va_get hx hb hts n1_ hown hK hP 0 rfl rfl 9 (Nat.le_of_ble_eq_true rfl) k3_ (fun _ h => h) rfl dX1_tell_67 ?_
    obtain rfl := Option.some.inj hf
    exact ret 70 ls _ dX1_tell_70 rfl rfl
  replace hf := ie hc3 hf
  by_cases hc4 : x1 = 3
  · replace hf := it hc4 hf
    refine lv_tableIn (off := 70) (tgt := 71) hx hb dX1_tell_1 (by rw [hc4]; decide) (by rw [hc4]; decide) (by rw [hc4]; rfl) (by decide) ?_
    refine lv_aload_n hx hb dX1_tell_71 rfl (lv_at hl 0 rfl) ?_
    refine va_get hx hb hts n1_ hown hK hP 0 rfl rfl 10 (Nat.le_of_ble_eq_true rfl) k4_ (fun _ h => h) rfl dX1_tell_72 ?_
    obtain rfl := Option.some.inj hf
    exact ret 75 ls _ dX1_tell_75 rfl rfl
  replace hf := ie hc4 hf
  by_cases hc5 : x1 = 4
  · replace hf := it hc5 hf
    refine lv_tableIn (off := 75) (tgt := 76) hx hb dX1_tell_1 (by rw [hc5]; decide) (by rw [hc5]; decide) (by rw [hc5]; rfl) (by decide) ?_
    refine lv_aload_n hx hb dX1_tell_76 rfl (lv_at hl 0 rfl) ?_
    refine va_get hx hb hts n1_ hown hK hP 0 rfl rfl 11 (Nat.le_of_ble_eq_true rfl) k5_ (fun _ h => h) rfl dX1_tell_77 ?_
    obtain rfl := Option.some.inj hf
    exact ret 80 ls _ dX1_tell_80 rfl rfl
  replace hf := ie hc5 hf
  by_cases hc6 : x1 = 5
  · replace hf := it hc6 hf
    refine lv_tableIn (off := 80) (tgt := 81) hx hb dX1_tell_1 (by rw [hc6]; decide) (by rw [hc6]; decide) (by rw [hc6]; rfl) (by decide) ?_
    refine lv_aload_n hx hb dX1_tell_81 rfl (lv_at hl 0 rfl) ?_
    refine va_get hx hb hts n1_ hown hK hP 0 rfl rfl 0 (Nat.le_of_ble_eq_true rfl) k6_ (fun _ h => h) rfl dX1_tell_82 ?_
    obtain ⟨q7, hq7, hf⟩ := ob hf
    refine cl_RV (As := []) (rest := []) hF hP hD (c_X3_amount (a 1) (a 2) (a 3) (a 4) 6 pA pM pn pt q7 hq7) (cwV 0 hts gX1_tell_X3_amount rfl rfl rfl (by decide +kernel) ⟨(Nat.le_of_ble_eq_true rfl), (Nat.le_of_ble_eq_true rfl)⟩) [1, 2, 3, 4] rfl (by decide) (va_recv hK hP (ci := 3) (q0 := 1) rfl rfl) rfl rfl hl.1 (Nat.le_of_ble_eq_true rfl) dX1_tell_85 ⟨Nat.zero_le _, Nat.zero_le _⟩ ?_
    obtain rfl := Option.some.inj hf
    exact ret 88 ls _ dX1_tell_88 rfl rfl
  replace hf := ie hc6 hf
  by_cases hc8 : x1 = 6
  · replace hf := it hc8 hf
    refine lv_tableIn (off := 88) (tgt := 89) hx hb dX1_tell_1 (by rw [hc8]; decide) (by rw [hc8]; decide) (by rw [hc8]; rfl) (by decide) ?_
    refine lv_aload_n hx hb dX1_tell_89 rfl (lv_at hl 0 rfl) ?_
    refine va_get hx hb hts n1_ hown hK hP 0 rfl rfl 3 (Nat.le_of_ble_eq_true rfl) k7_ (fun _ h => h) rfl dX1_tell_90 ?_
    refine va_getN hx hb hts n5_ hown hK hP 7 rfl rfl 3 (Nat.le_of_ble_eq_true rfl) (hN.get 3 rfl) (fun _ h => h) rfl dX1_tell_93 ?_
    obtain rfl := Option.some.inj hf
    exact ret 96 ls _ dX1_tell_96 rfl rfl
  replace hf := ie hc8 hf
  by_cases hc9 : x1 = 7
  · replace hf := it hc9 hf
    refine lv_tableIn (off := 96) (tgt := 97) hx hb dX1_tell_1 (by rw [hc9]; decide) (by rw [hc9]; decide) (by rw [hc9]; rfl) (by decide) ?_
    refine lv_aload_n hx hb dX1_tell_97 rfl (lv_at hl 0 rfl) ?_
    refine va_get hx hb hts n1_ hown hK hP 0 rfl rfl 4 (Nat.le_of_ble_eq_true rfl) k8_ (fun _ h => h) rfl dX1_tell_98 ?_
    refine va_getN hx hb hts n5_ hown hK hP 10 rfl rfl 3 (Nat.le_of_ble_eq_true rfl) (hN.get 3 rfl) (fun _ h => h) rfl dX1_tell_101 ?_
    obtain rfl := Option.some.inj hf
    exact ret 104 ls _ dX1_tell_104 rfl rfl
  replace hf := ie hc9 hf
  by_cases hc10 : x1 = 8
  · replace hf := it hc10 hf
    refine lv_tableIn (off := 104) (tgt := 105) hx hb dX1_tell_1 (by rw [hc10]; decide) (by rw [hc10]; decide) (by rw [hc10]; rfl) (by decide) ?_
    refine lv_aload_n hx hb dX1_tell_105 rfl (lv_at hl 0 rfl) ?_
    refine va_get hx hb hts n1_ hown hK hP 0 rfl rfl 5 (Nat.le_of_ble_eq_true rfl) k9_ (fun _ h => h) rfl dX1_tell_106 ?_
    refine va_getN hx hb hts n6_ hown hK hP 13 rfl rfl 2 (Nat.le_of_ble_eq_true rfl) (hN.get 7 rfl) (fun _ h => h) rfl dX1_tell_109 ?_
    obtain rfl := Option.some.inj hf
    exact ret 112 ls _ dX1_tell_112 rfl rfl
  replace hf := ie hc10 hf
  by_cases hc11 : x1 = 9
  · replace hf := it hc11 hf
    refine lv_tableIn (off := 112) (tgt := 113) hx hb dX1_tell_1 (by rw [hc11]; decide) (by rw [hc11]; decide) (by rw [hc11]; rfl) (by decide) ?_
    refine lv_aload_n hx hb dX1_tell_113 rfl (lv_at hl 0 rfl) ?_
    refine va_get hx hb hts n1_ hown hK hP 0 rfl rfl 12 (Nat.le_of_ble_eq_true rfl) k10_ (fun _ h => h) rfl dX1_tell_114 ?_
    obtain rfl := Option.some.inj hf
    exact ret 117 ls _ dX1_tell_117 rfl rfl
  replace hf := ie hc11 hf
  refine lv_tableOut (tgt := 118) hx hb dX1_tell_1 (by have q0 := gt_ne hc1 (k := 0) rfl; have q1 := gt_ne hc2 (k := 1) rfl; have q2 := gt_ne hc3 (k := 2) rfl; have q3 := gt_ne hc4 (k := 3) rfl; have q4 := gt_ne hc5 (k := 4) rfl; have q5 := gt_ne hc6 (k := 5) rfl; have q6 := gt_ne hc8 (k := 6) rfl; have q7 := gt_ne hc9 (k := 7) rfl; have q8 := gt_ne hc10 (k := 8) rfl; have q9 := gt_ne hc11 (k := 9) rfl; omega) (by decide) ?_
  refine lv_aload_n hx hb dX1_tell_118 rfl (lv_at hl 0 rfl) ?_
  refine lv_iload_n hx hb dX1_tell_119 rfl (lv_at hl 1 rfl) ?_
  obtain ⟨q12, hq12, hf⟩ := ob hf
  refine cl_RV (As := [.int x1]) (rest := []) hF hP hD (c_X1_tellSetting gh a x1 pA pM pn pt d0 w0 g0 k0 d1 w1 g1 k1 qA qM qn qt uA uM un ut sF sk sm st se fi gr br pu nr q12 hq12) (cwV 1 hts gX1_tell_X1_tellSetting rfl rfl rfl (by decide +kernel) ⟨(Nat.le_of_ble_eq_true rfl), (Nat.le_of_ble_eq_true rfl)⟩) [0, 1, 2, 3, 4, 5, 6, 7, 8, 9, 10, 11, 12, 13, 14, 15] rfl (by decide) (va_recv hK hP (ci := 1) (q0 := 0) rfl rfl) rfl rfl hl.1 (Nat.le_of_ble_eq_true rfl) dX1_tell_120 ⟨Nat.zero_le _, Nat.zero_le _⟩ ?_
  obtain rfl := Option.some.inj hf
  exact ret 123 ls _ dX1_tell_123 rfl rfl
noncomputable def f_X1_tellPortion_q (x2 : Int32) (x3 : Int32) (qA : Nat → Int32) (qM : Nat → Int32) (qn : Int32) (st : Nat → Int32) : Option (Int32) := (if x2 < qn then (f_X5_markAt 106 x2 qM qn).bind fun q2 => (if x3 = 0 then (f_X5_amountAt 106 x2 qA qn).bind fun q4 => some q4 else (if x3 = 1 then (f_X7_kindOfMark q2).bind fun q6 => some q6 else (if x3 = 2 then (f_X7_burrOfMark q2).bind fun q8 => some q8 else (if x3 = 3 then (f_X7_gapOfMark q2).bind fun q10 => some q10 else (f_X1_flowOfMark q2 st).bind fun q11 => some q11)))) else some (-1000004 : Int32))
abbrev rmX1_tellPortion_q : Room := { frames := 3, cells := 0, slots := 0, locals := 42 }
set_option maxHeartbeats 4000000 in
set_option maxRecDepth 100000 in
theorem c_X1_tellPortion_q (gh : Nat) (a : Nat → Nat) (x2 : Int32) (x3 : Int32) (pA : Nat → Int32) (pM : Nat → Int32) (pn : Int32) (pt : Int32) (d0 : Int32) (w0 : Int32) (g0 : Int32) (k0 : Int32) (d1 : Int32) (w1 : Int32) (g1 : Int32) (k1 : Int32) (qA : Nat → Int32) (qM : Nat → Int32) (qn : Int32) (qt : Int32) (uA : Nat → Int32) (uM : Nat → Int32) (un : Int32) (ut : Int32) (sF : Nat → Int32) (sk : Int32) (sm : Int32) (st : Nat → Int32) (se : Int32) (fi : Int32) (gr : Int32) (br : Int32) (pu : Int32) (nr : Int32) (R : Int32) (hf : f_X1_tellPortion_q x2 x3 qA qM qn st = some R) : RdI l yX1_tellPortion wsX1_tellPortion rmX1_tellPortion_q D cI cC (w_grinder cI cC gh a pA pM pn pt d0 w0 g0 k0 d1 w1 g1 k1 qA qM qn qt uA uM un ut sF sk sm st se fi gr br pu nr) [.ref gh, .ref (a 7), .int x2, .int x3] R := by
  refine en_R (cc := cX1_tellPortion) (n := 5) (by decide) rfl (Nat.le_of_ble_eq_true rfl) ?_
  intro p e s m args below meth c Q AA ls hx hb hml hown hts hK hN hP hD hl ret
  have hown : s.vm.findClass RX1 = some m.cls := hown
  have hF : FX p m c cX1_tellPortion 5 s args wsX1_tellPortion RX1 D cI cC := ⟨⟨hx, hb, hml, hown, hts⟩, hK, hN⟩
  have hl : lv_has ls 5 [(0, .ref gh), (1, .ref (a 7)), (2, .int x2), (3, .int x3)] := hl
  have k14_ := hts (.static yX7_kindOfMark) (List.mem_of_getElem? (i := 14) rfl)
  have k15_ := hts (.initialized RX7) (List.mem_of_getElem? (i := 15) rfl)
  have k17_ := hts (.static yX7_burrOfMark) (List.mem_of_getElem? (i := 17) rfl)
  have k19_ := hts (.static yX7_gapOfMark) (List.mem_of_getElem? (i := 19) rfl)
  have k1_ := hts (.constant RX1 206 (-1000004)) (List.mem_of_getElem? (i := 1) rfl)
  have n5_ : ∀ w ∈ wsX50, w ∈ wsX1_tellPortion := fun _ h => List.mem_cons_of_mem _ (List.mem_append_left _ (List.mem_append_right _ h))
  rw [f_X1_tellPortion_q] at hf
  refine lv_iload_n hx hb dX1_tellPortion_0 rfl (lv_at hl 2 rfl) ?_
  refine lv_aload_n hx hb dX1_tellPortion_1 rfl (lv_at hl 1 rfl) ?_
  refine va_getN hx hb hts n5_ hown hK hP 7 rfl rfl 2 (Nat.le_of_ble_eq_true rfl) (hN.get 1 rfl) (fun _ h => h) rfl dX1_tellPortion_2 ?_
  refine lv_icmp_lt (tgt := 11) hx hb dX1_tellPortion_5 (by decide) (fun hc1 => ?_) (fun hc1 => ?_)
  · replace hf := it hc1 hf
    refine lv_aload_n hx hb dX1_tellPortion_11 rfl (lv_at hl 1 rfl) ?_
    refine lv_iload_n hx hb dX1_tellPortion_12 rfl (lv_at hl 2 rfl) ?_
    obtain ⟨q2, hq2, hf⟩ := ob hf
    refine cl_RV (As := [.int x2]) (rest := []) hF hP hD (c_X5_markAt (a 7) (a 8) (a 9) 106 x2 qA qM qn qt q2 hq2) (cwV 1 hts gX1_tellPortion_X5_markAt rfl rfl rfl (by decide +kernel) ⟨(Nat.le_of_ble_eq_true rfl), (Nat.le_of_ble_eq_true rfl)⟩) [7, 8, 9] rfl (by decide) (va_recv hK hP (ci := 5) (q0 := 7) rfl rfl) rfl rfl hl.1 (Nat.le_of_ble_eq_true rfl) dX1_tellPortion_13 ⟨Nat.zero_le _, Nat.zero_le _⟩ ?_
    refine lv_istore (lv' := [(4, .int q2), (0, .ref gh), (1, .ref (a 7)), (2, .int x2), (3, .int x3)]) hx hb dX1_tellPortion_16 hl (by decide) rfl (fun ls hl => ?_)
    refine lv_iload_n hx hb dX1_tellPortion_18 rfl (lv_at hl 4 rfl) ?_
    by_cases hc3 : x3 = 0
    · replace hf := it hc3 hf
      refine lv_tableIn (off := 29) (tgt := 48) hx hb dX1_tellPortion_19 (by rw [hc3]; decide) (by rw [hc3]; decide) (by rw [hc3]; rfl) (by decide) ?_
      refine lv_aload_n hx hb dX1_tellPortion_48 rfl (lv_at hl 2 rfl) ?_
      refine lv_iload_n hx hb dX1_tellPortion_49 rfl (lv_at hl 3 rfl) ?_
      obtain ⟨q4, hq4, hf⟩ := ob hf
      refine cl_RV (As := [.int x2]) (rest := []) hF hP hD (c_X5_amountAt (a 7) (a 8) (a 9) 106 x2 qA qM qn qt q4 hq4) (cwV 1 hts gX1_tellPortion_X5_amountAt rfl rfl rfl (by decide +kernel) ⟨(Nat.le_of_ble_eq_true rfl), (Nat.le_of_ble_eq_true rfl)⟩) [7, 8, 9] rfl (by decide) (va_recv hK hP (ci := 5) (q0 := 7) rfl rfl) rfl rfl hl.1 (Nat.le_of_ble_eq_true rfl) dX1_tellPortion_50 ⟨Nat.zero_le _, Nat.zero_le _⟩ ?_
      obtain rfl := Option.some.inj hf
      exact ret 53 ls _ dX1_tellPortion_53 rfl rfl
    replace hf := ie hc3 hf
    by_cases hc5 : x3 = 1
    · replace hf := it hc5 hf
      refine lv_tableIn (off := 35) (tgt := 54) hx hb dX1_tellPortion_19 (by rw [hc5]; decide) (by rw [hc5]; decide) (by rw [hc5]; rfl) (by decide) ?_
      refine lv_iload hx hb dX1_tellPortion_54 (lv_at hl 0 rfl) ?_
      obtain ⟨q6, hq6, hf⟩ := ob hf
      refine cl_RN (As := [.int q2]) (rest := []) hF hP hD (c_X7_kindOfMark q2 q6 hq6) ⟨va_cnB 1 hts gX1_tellPortion_X7_kindOfMark_n182 rfl rfl rfl (hN.nw 28 rfl) k15_ (by decide +kernel) ⟨(Nat.le_of_ble_eq_true rfl), (Nat.le_of_ble_eq_true rfl)⟩, k14_, trivial⟩ [] rfl (by decide) rfl rfl hl.1 (Nat.le_of_ble_eq_true rfl) dX1_tellPortion_56 ⟨Nat.zero_le _, Nat.zero_le _⟩ ?_
      obtain rfl := Option.some.inj hf
      exact ret 59 ls _ dX1_tellPortion_59 rfl rfl
    replace hf := ie hc5 hf
    by_cases hc7 : x3 = 2
    · replace hf := it hc7 hf
      refine lv_tableIn (off := 41) (tgt := 60) hx hb dX1_tellPortion_19 (by rw [hc7]; decide) (by rw [hc7]; decide) (by rw [hc7]; rfl) (by decide) ?_
      refine lv_iload hx hb dX1_tellPortion_60 (lv_at hl 0 rfl) ?_
      obtain ⟨q8, hq8, hf⟩ := ob hf
      refine cl_RN (As := [.int q2]) (rest := []) hF hP hD (c_X7_burrOfMark q2 q8 hq8) ⟨va_cnB 1 hts gX1_tellPortion_X7_burrOfMark_n207 rfl rfl rfl (hN.nw 31 rfl) k15_ (by decide +kernel) ⟨(Nat.le_of_ble_eq_true rfl), (Nat.le_of_ble_eq_true rfl)⟩, k17_, trivial⟩ [] rfl (by decide) rfl rfl hl.1 (Nat.le_of_ble_eq_true rfl) dX1_tellPortion_62 ⟨Nat.zero_le _, Nat.zero_le _⟩ ?_
      obtain rfl := Option.some.inj hf
      exact ret 65 ls _ dX1_tellPortion_65 rfl rfl
    replace hf := ie hc7 hf
    by_cases hc9 : x3 = 3
    · replace hf := it hc9 hf
      refine lv_tableIn (off := 47) (tgt := 66) hx hb dX1_tellPortion_19 (by rw [hc9]; decide) (by rw [hc9]; decide) (by rw [hc9]; rfl) (by decide) ?_
      refine lv_iload hx hb dX1_tellPortion_66 (lv_at hl 0 rfl) ?_
      obtain ⟨q10, hq10, hf⟩ := ob hf
      refine cl_RN (As := [.int q2]) (rest := []) hF hP hD (c_X7_gapOfMark q2 q10 hq10) ⟨va_cnB 1 hts gX1_tellPortion_X7_gapOfMark_n188 rfl rfl rfl (hN.nw 29 rfl) k15_ (by decide +kernel) ⟨(Nat.le_of_ble_eq_true rfl), (Nat.le_of_ble_eq_true rfl)⟩, k19_, trivial⟩ [] rfl (by decide) rfl rfl hl.1 (Nat.le_of_ble_eq_true rfl) dX1_tellPortion_68 ⟨Nat.zero_le _, Nat.zero_le _⟩ ?_
      obtain rfl := Option.some.inj hf
      exact ret 71 ls _ dX1_tellPortion_71 rfl rfl
    replace hf := ie hc9 hf
    refine lv_tableOut (tgt := 72) hx hb dX1_tellPortion_19 (by have q0 := gt_ne hc3 (k := 0) rfl; have q1 := gt_ne hc5 (k := 1) rfl; have q2 := gt_ne hc7 (k := 2) rfl; have q3 := gt_ne hc9 (k := 3) rfl; omega) (by decide) ?_
    refine lv_aload_n hx hb dX1_tellPortion_72 rfl (lv_at hl 1 rfl) ?_
    refine lv_iload hx hb dX1_tellPortion_73 (lv_at hl 0 rfl) ?_
    obtain ⟨q11, hq11, hf⟩ := ob hf
    refine cl_RV (As := [.int q2]) (rest := []) hF hP hD (c_X1_flowOfMark gh a q2 pA pM pn pt d0 w0 g0 k0 d1 w1 g1 k1 qA qM qn qt uA uM un ut sF sk sm st se fi gr br pu nr q11 hq11) (cwV 1 hts gX1_tellPortion_X1_flowOfMark rfl rfl rfl (by decide +kernel) ⟨(Nat.le_of_ble_eq_true rfl), (Nat.le_of_ble_eq_true rfl)⟩) [0, 1, 2, 3, 4, 5, 6, 7, 8, 9, 10, 11, 12, 13, 14, 15] rfl (by decide) (va_recv hK hP (ci := 1) (q0 := 0) rfl rfl) rfl rfl hl.1 (Nat.le_of_ble_eq_true rfl) dX1_tellPortion_75 ⟨Nat.zero_le _, Nat.zero_le _⟩ ?_
    obtain rfl := Option.some.inj hf
    exact ret 78 ls _ dX1_tellPortion_78 rfl rfl
  · replace hf := ie hc1 hf
    refine lv_ldc hx hb hown k1_ dX1_tellPortion_8 ?_
    obtain rfl := Option.some.inj hf
    exact ret 10 ls _ dX1_tellPortion_10 rfl rfl
noncomputable def f_X1_tellPortion_u (x2 : Int32) (x3 : Int32) (uA : Nat → Int32) (uM : Nat → Int32) (un : Int32) (st : Nat → Int32) : Option (Int32) := (if x2 < un then (f_X5_markAt 400 x2 uM un).bind fun q2 => (if x3 = 0 then (f_X5_amountAt 400 x2 uA un).bind fun q4 => some q4 else (if x3 = 1 then (f_X7_kindOfMark q2).bind fun q6 => some q6 else (if x3 = 2 then (f_X7_burrOfMark q2).bind fun q8 => some q8 else (if x3 = 3 then (f_X7_gapOfMark q2).bind fun q10 => some q10 else (f_X1_flowOfMark q2 st).bind fun q11 => some q11)))) else some (-1000004 : Int32))
abbrev rmX1_tellPortion_u : Room := { frames := 3, cells := 0, slots := 0, locals := 42 }
set_option maxHeartbeats 4000000 in
set_option maxRecDepth 100000 in
theorem c_X1_tellPortion_u (gh : Nat) (a : Nat → Nat) (x2 : Int32) (x3 : Int32) (pA : Nat → Int32) (pM : Nat → Int32) (pn : Int32) (pt : Int32) (d0 : Int32) (w0 : Int32) (g0 : Int32) (k0 : Int32) (d1 : Int32) (w1 : Int32) (g1 : Int32) (k1 : Int32) (qA : Nat → Int32) (qM : Nat → Int32) (qn : Int32) (qt : Int32) (uA : Nat → Int32) (uM : Nat → Int32) (un : Int32) (ut : Int32) (sF : Nat → Int32) (sk : Int32) (sm : Int32) (st : Nat → Int32) (se : Int32) (fi : Int32) (gr : Int32) (br : Int32) (pu : Int32) (nr : Int32) (R : Int32) (hf : f_X1_tellPortion_u x2 x3 uA uM un st = some R) : RdI l yX1_tellPortion wsX1_tellPortion rmX1_tellPortion_u D cI cC (w_grinder cI cC gh a pA pM pn pt d0 w0 g0 k0 d1 w1 g1 k1 qA qM qn qt uA uM un ut sF sk sm st se fi gr br pu nr) [.ref gh, .ref (a 10), .int x2, .int x3] R := by
  refine en_R (cc := cX1_tellPortion) (n := 5) (by decide) rfl (Nat.le_of_ble_eq_true rfl) ?_
  intro p e s m args below meth c Q AA ls hx hb hml hown hts hK hN hP hD hl ret
  have hown : s.vm.findClass RX1 = some m.cls := hown
  have hF : FX p m c cX1_tellPortion 5 s args wsX1_tellPortion RX1 D cI cC := ⟨⟨hx, hb, hml, hown, hts⟩, hK, hN⟩
  have hl : lv_has ls 5 [(0, .ref gh), (1, .ref (a 10)), (2, .int x2), (3, .int x3)] := hl
  have k14_ := hts (.static yX7_kindOfMark) (List.mem_of_getElem? (i := 14) rfl)
  have k15_ := hts (.initialized RX7) (List.mem_of_getElem? (i := 15) rfl)
  have k17_ := hts (.static yX7_burrOfMark) (List.mem_of_getElem? (i := 17) rfl)
  have k19_ := hts (.static yX7_gapOfMark) (List.mem_of_getElem? (i := 19) rfl)
  have k1_ := hts (.constant RX1 206 (-1000004)) (List.mem_of_getElem? (i := 1) rfl)
  have n5_ : ∀ w ∈ wsX50, w ∈ wsX1_tellPortion := fun _ h => List.mem_cons_of_mem _ (List.mem_append_left _ (List.mem_append_right _ h))
  rw [f_X1_tellPortion_u] at hf
  refine lv_iload_n hx hb dX1_tellPortion_0 rfl (lv_at hl 2 rfl) ?_
  refine lv_aload_n hx hb dX1_tellPortion_1 rfl (lv_at hl 1 rfl) ?_
  refine va_getN hx hb hts n5_ hown hK hP 10 rfl rfl 2 (Nat.le_of_ble_eq_true rfl) (hN.get 1 rfl) (fun _ h => h) rfl dX1_tellPortion_2 ?_
  refine lv_icmp_lt (tgt := 11) hx hb dX1_tellPortion_5 (by decide) (fun hc1 => ?_) (fun hc1 => ?_)
  · replace hf := it hc1 hf
    refine lv_aload_n hx hb dX1_tellPortion_11 rfl (lv_at hl 1 rfl) ?_
    refine lv_iload_n hx hb dX1_tellPortion_12 rfl (lv_at hl 2 rfl) ?_
    obtain ⟨q2, hq2, hf⟩ := ob hf
    refine cl_RV (As := [.int x2]) (rest := []) hF hP hD (c_X5_markAt (a 10) (a 11) (a 12) 400 x2 uA uM un ut q2 hq2) (cwV 1 hts gX1_tellPortion_X5_markAt rfl rfl rfl (by decide +kernel) ⟨(Nat.le_of_ble_eq_true rfl), (Nat.le_of_ble_eq_true rfl)⟩) [10, 11, 12] rfl (by decide) (va_recv hK hP (ci := 5) (q0 := 10) rfl rfl) rfl rfl hl.1 (Nat.le_of_ble_eq_true rfl) dX1_tellPortion_13 ⟨Nat.zero_le _, Nat.zero_le _⟩ ?_
    refine lv_istore (lv' := [(4, .int q2), (0, .ref gh), (1, .ref (a 10)), (2, .int x2), (3, .int x3)]) hx hb dX1_tellPortion_16 hl (by decide) rfl (fun ls hl => ?_)
    refine lv_iload_n hx hb dX1_tellPortion_18 rfl (lv_at hl 4 rfl) ?_
    by_cases hc3 : x3 = 0
    · replace hf := it hc3 hf
      refine lv_tableIn (off := 29) (tgt := 48) hx hb dX1_tellPortion_19 (by rw [hc3]; decide) (by rw [hc3]; decide) (by rw [hc3]; rfl) (by decide) ?_
      refine lv_aload_n hx hb dX1_tellPortion_48 rfl (lv_at hl 2 rfl) ?_
      refine lv_iload_n hx hb dX1_tellPortion_49 rfl (lv_at hl 3 rfl) ?_
      obtain ⟨q4, hq4, hf⟩ := ob hf
      refine cl_RV (As := [.int x2]) (rest := []) hF hP hD (c_X5_amountAt (a 10) (a 11) (a 12) 400 x2 uA uM un ut q4 hq4) (cwV 1 hts gX1_tellPortion_X5_amountAt rfl rfl rfl (by decide +kernel) ⟨(Nat.le_of_ble_eq_true rfl), (Nat.le_of_ble_eq_true rfl)⟩) [10, 11, 12] rfl (by decide) (va_recv hK hP (ci := 5) (q0 := 10) rfl rfl) rfl rfl hl.1 (Nat.le_of_ble_eq_true rfl) dX1_tellPortion_50 ⟨Nat.zero_le _, Nat.zero_le _⟩ ?_
      obtain rfl := Option.some.inj hf
      exact ret 53 ls _ dX1_tellPortion_53 rfl rfl
    replace hf := ie hc3 hf
    by_cases hc5 : x3 = 1
    · replace hf := it hc5 hf
      refine lv_tableIn (off := 35) (tgt := 54) hx hb dX1_tellPortion_19 (by rw [hc5]; decide) (by rw [hc5]; decide) (by rw [hc5]; rfl) (by decide) ?_
      refine lv_iload hx hb dX1_tellPortion_54 (lv_at hl 0 rfl) ?_
      obtain ⟨q6, hq6, hf⟩ := ob hf
      refine cl_RN (As := [.int q2]) (rest := []) hF hP hD (c_X7_kindOfMark q2 q6 hq6) ⟨va_cnB 1 hts gX1_tellPortion_X7_kindOfMark_n182 rfl rfl rfl (hN.nw 28 rfl) k15_ (by decide +kernel) ⟨(Nat.le_of_ble_eq_true rfl), (Nat.le_of_ble_eq_true rfl)⟩, k14_, trivial⟩ [] rfl (by decide) rfl rfl hl.1 (Nat.le_of_ble_eq_true rfl) dX1_tellPortion_56 ⟨Nat.zero_le _, Nat.zero_le _⟩ ?_
      obtain rfl := Option.some.inj hf
      exact ret 59 ls _ dX1_tellPortion_59 rfl rfl
    replace hf := ie hc5 hf
    by_cases hc7 : x3 = 2
    · replace hf := it hc7 hf
      refine lv_tableIn (off := 41) (tgt := 60) hx hb dX1_tellPortion_19 (by rw [hc7]; decide) (by rw [hc7]; decide) (by rw [hc7]; rfl) (by decide) ?_
      refine lv_iload hx hb dX1_tellPortion_60 (lv_at hl 0 rfl) ?_
      obtain ⟨q8, hq8, hf⟩ := ob hf
      refine cl_RN (As := [.int q2]) (rest := []) hF hP hD (c_X7_burrOfMark q2 q8 hq8) ⟨va_cnB 1 hts gX1_tellPortion_X7_burrOfMark_n207 rfl rfl rfl (hN.nw 31 rfl) k15_ (by decide +kernel) ⟨(Nat.le_of_ble_eq_true rfl), (Nat.le_of_ble_eq_true rfl)⟩, k17_, trivial⟩ [] rfl (by decide) rfl rfl hl.1 (Nat.le_of_ble_eq_true rfl) dX1_tellPortion_62 ⟨Nat.zero_le _, Nat.zero_le _⟩ ?_
      obtain rfl := Option.some.inj hf
      exact ret 65 ls _ dX1_tellPortion_65 rfl rfl
    replace hf := ie hc7 hf
    by_cases hc9 : x3 = 3
    · replace hf := it hc9 hf
      refine lv_tableIn (off := 47) (tgt := 66) hx hb dX1_tellPortion_19 (by rw [hc9]; decide) (by rw [hc9]; decide) (by rw [hc9]; rfl) (by decide) ?_
      refine lv_iload hx hb dX1_tellPortion_66 (lv_at hl 0 rfl) ?_
      obtain ⟨q10, hq10, hf⟩ := ob hf
      refine cl_RN (As := [.int q2]) (rest := []) hF hP hD (c_X7_gapOfMark q2 q10 hq10) ⟨va_cnB 1 hts gX1_tellPortion_X7_gapOfMark_n188 rfl rfl rfl (hN.nw 29 rfl) k15_ (by decide +kernel) ⟨(Nat.le_of_ble_eq_true rfl), (Nat.le_of_ble_eq_true rfl)⟩, k19_, trivial⟩ [] rfl (by decide) rfl rfl hl.1 (Nat.le_of_ble_eq_true rfl) dX1_tellPortion_68 ⟨Nat.zero_le _, Nat.zero_le _⟩ ?_
      obtain rfl := Option.some.inj hf
      exact ret 71 ls _ dX1_tellPortion_71 rfl rfl
    replace hf := ie hc9 hf
    refine lv_tableOut (tgt := 72) hx hb dX1_tellPortion_19 (by have q0 := gt_ne hc3 (k := 0) rfl; have q1 := gt_ne hc5 (k := 1) rfl; have q2 := gt_ne hc7 (k := 2) rfl; have q3 := gt_ne hc9 (k := 3) rfl; omega) (by decide) ?_
    refine lv_aload_n hx hb dX1_tellPortion_72 rfl (lv_at hl 1 rfl) ?_
    refine lv_iload hx hb dX1_tellPortion_73 (lv_at hl 0 rfl) ?_
    obtain ⟨q11, hq11, hf⟩ := ob hf
    refine cl_RV (As := [.int q2]) (rest := []) hF hP hD (c_X1_flowOfMark gh a q2 pA pM pn pt d0 w0 g0 k0 d1 w1 g1 k1 qA qM qn qt uA uM un ut sF sk sm st se fi gr br pu nr q11 hq11) (cwV 1 hts gX1_tellPortion_X1_flowOfMark rfl rfl rfl (by decide +kernel) ⟨(Nat.le_of_ble_eq_true rfl), (Nat.le_of_ble_eq_true rfl)⟩) [0, 1, 2, 3, 4, 5, 6, 7, 8, 9, 10, 11, 12, 13, 14, 15] rfl (by decide) (va_recv hK hP (ci := 1) (q0 := 0) rfl rfl) rfl rfl hl.1 (Nat.le_of_ble_eq_true rfl) dX1_tellPortion_75 ⟨Nat.zero_le _, Nat.zero_le _⟩ ?_
    obtain rfl := Option.some.inj hf
    exact ret 78 ls _ dX1_tellPortion_78 rfl rfl
  · replace hf := ie hc1 hf
    refine lv_ldc hx hb hown k1_ dX1_tellPortion_8 ?_
    obtain rfl := Option.some.inj hf
    exact ret 10 ls _ dX1_tellPortion_10 rfl rfl
noncomputable def f_X1_awayAtDial_0 (x1 : Int32) (x3 : Int32) (w0 : Int32) (st : Nat → Int32) : Option (Int32) := (f_X1_hardnessOf x3 st).bind fun q1 => (f_X0_gapAt x1 w0).bind fun q2 => (f_X7_flowOf q1 q2).bind fun q3 => lt ((if 0 ≤ (q3 - (st (0 : Int32).toNatClampNeg)) then (q3 - (st (0 : Int32).toNatClampNeg)) else 0 - (q3 - (st (0 : Int32).toNatClampNeg)))) fun v4 => some v4
abbrev rmX1_awayAtDial_0 : Room := { frames := 2, cells := 0, slots := 0, locals := 42 }
set_option maxHeartbeats 4000000 in
set_option maxRecDepth 100000 in
theorem c_X1_awayAtDial_0 (gh : Nat) (a : Nat → Nat) (x1 : Int32) (x3 : Int32) (pA : Nat → Int32) (pM : Nat → Int32) (pn : Int32) (pt : Int32) (d0 : Int32) (w0 : Int32) (g0 : Int32) (k0 : Int32) (d1 : Int32) (w1 : Int32) (g1 : Int32) (k1 : Int32) (qA : Nat → Int32) (qM : Nat → Int32) (qn : Int32) (qt : Int32) (uA : Nat → Int32) (uM : Nat → Int32) (un : Int32) (ut : Int32) (sF : Nat → Int32) (sk : Int32) (sm : Int32) (st : Nat → Int32) (se : Int32) (fi : Int32) (gr : Int32) (br : Int32) (pu : Int32) (nr : Int32) (R : Int32) (hf : f_X1_awayAtDial_0 x1 x3 w0 st = some R) : RdI l yX1_awayAtDial wsX1_awayAtDial rmX1_awayAtDial_0 D cI cC (w_grinder cI cC gh a pA pM pn pt d0 w0 g0 k0 d1 w1 g1 k1 qA qM qn qt uA uM un ut sF sk sm st se fi gr br pu nr) [.ref gh, .int x1, .ref (a 5), .int x3] R := by
  refine en_R (cc := cX1_awayAtDial) (n := 4) (by decide) rfl (Nat.le_of_ble_eq_true rfl) ?_
  intro p e s m args below meth c Q AA ls hx hb hml hown hts hK hN hP hD hl ret
  have hown : s.vm.findClass RX1 = some m.cls := hown
  have hF : FX p m c cX1_awayAtDial 4 s args wsX1_awayAtDial RX1 D cI cC := ⟨⟨hx, hb, hml, hown, hts⟩, hK, hN⟩
  have hl : lv_has ls 4 [(0, .ref gh), (1, .int x1), (2, .ref (a 5)), (3, .int x3)] := hl
  have k1_ := hts (.fieldLink RX1 47 "DriftGrinders$Grinder" "settings" "[I") (List.mem_of_getElem? (i := 1) rfl)
  have k20_ := hts (.static yX7_flowOf) (List.mem_of_getElem? (i := 20) rfl)
  have k21_ := hts (.initialized RX7) (List.mem_of_getElem? (i := 21) rfl)
  have k2_ := hts (.methodLink RX1 166 Lib.Math.abs.name) (List.mem_of_getElem? (i := 2) rfl)
  have k3_ := hts (.static Lib.Math.abs.name) (List.mem_of_getElem? (i := 3) rfl)
  have k4_ := hts (.initialized "java/lang/Math") (List.mem_of_getElem? (i := 4) rfl)
  have k5_ := hts (.code Lib.Math.abs.name Lib.Math.abs.code 1 (some .int)) (List.mem_of_getElem? (i := 5) rfl)
  have n1_ : ∀ w ∈ wsX10, w ∈ wsX1_awayAtDial := fun _ h => List.mem_cons_of_mem _ (List.mem_append_left _ (List.mem_append_right _ h))
  rw [f_X1_awayAtDial_0] at hf
  refine lv_aload_n hx hb dX1_awayAtDial_0 rfl (lv_at hl 0 rfl) ?_
  refine lv_iload_n hx hb dX1_awayAtDial_1 rfl (lv_at hl 3 rfl) ?_
  obtain ⟨q1, hq1, hf⟩ := ob hf
  refine cl_RV (As := [.int x3]) (rest := []) hF hP hD (c_X1_hardnessOf gh a x3 pA pM pn pt d0 w0 g0 k0 d1 w1 g1 k1 qA qM qn qt uA uM un ut sF sk sm st se fi gr br pu nr q1 hq1) (cwV 1 hts gX1_awayAtDial_X1_hardnessOf rfl rfl rfl (by decide +kernel) ⟨(Nat.le_of_ble_eq_true rfl), (Nat.le_of_ble_eq_true rfl)⟩) [0, 1, 2, 3, 4, 5, 6, 7, 8, 9, 10, 11, 12, 13, 14, 15] rfl (by decide) (va_recv hK hP (ci := 1) (q0 := 0) rfl rfl) rfl rfl hl.1 (Nat.le_of_ble_eq_true rfl) dX1_awayAtDial_2 ⟨Nat.zero_le _, Nat.zero_le _⟩ ?_
  refine lv_aload_n hx hb dX1_awayAtDial_5 rfl (lv_at hl 2 rfl) ?_
  refine lv_iload_n hx hb dX1_awayAtDial_6 rfl (lv_at hl 1 rfl) ?_
  obtain ⟨q2, hq2, hf⟩ := ob hf
  refine cl_RV (As := [.int x1]) (rest := [.int q1]) hF hP hD (c_X0_gapAt (a 5) x1 d0 w0 g0 k0 q2 hq2) (cwV 1 hts gX1_awayAtDial_X0_gapAt rfl rfl rfl (by decide +kernel) ⟨(Nat.le_of_ble_eq_true rfl), (Nat.le_of_ble_eq_true rfl)⟩) [5] rfl (by decide) (va_recv hK hP (ci := 0) (q0 := 5) rfl rfl) rfl rfl hl.1 (Nat.le_of_ble_eq_true rfl) dX1_awayAtDial_7 ⟨Nat.zero_le _, Nat.zero_le _⟩ ?_
  obtain ⟨q3, hq3, hf⟩ := ob hf
  refine cl_RN (As := [.int q1, .int q2]) (rest := []) hF hP hD (c_X7_flowOf q1 q2 q3 hq3) ⟨va_cnB 2 hts gX1_awayAtDial_X7_flowOf_n191 rfl rfl rfl (hN.nw 30 rfl) k21_ (by decide +kernel) ⟨(Nat.le_of_ble_eq_true rfl), (Nat.le_of_ble_eq_true rfl)⟩, k20_, trivial⟩ [] rfl (by decide) rfl rfl hl.1 (Nat.le_of_ble_eq_true rfl) dX1_awayAtDial_10 ⟨Nat.zero_le _, Nat.zero_le _⟩ ?_
  refine lv_aload_n hx hb dX1_awayAtDial_13 rfl (lv_at hl 0 rfl) ?_
  refine va_get hx hb hts n1_ hown hK hP 0 rfl rfl 6 (Nat.le_of_ble_eq_true rfl) k1_ (fun _ h => h) rfl dX1_awayAtDial_14 ?_
  refine lv_iconst (v := (0 : Int32)) hx hb dX1_awayAtDial_17 (by decide) ?_
  refine va_iald hx hb hK hP 15 0 rfl rfl (show ¬ ((0 : Int32) < 0 ∨ 6 ≤ (0 : Int32).toNatClampNeg) by decide) dX1_awayAtDial_18 ?_
  refine lv_isub hx hb dX1_awayAtDial_19 ?_
  refine va_mabs hx hb (hml.trans hl.1.symm) hown k2_ k3_ k4_ k5_ (Nat.le_of_ble_eq_true rfl) (Nat.le_of_ble_eq_true rfl) (Nat.zero_le _) (Nat.zero_le _) dX1_awayAtDial_20 ?_
  refine lv_topi (fun v4 ev4 => ?_)
  replace hf := lt_e ev4 hf
  obtain rfl := Option.some.inj hf
  exact ret 23 ls _ dX1_awayAtDial_23 rfl rfl
noncomputable def f_X1_awayAtDial_1 (x1 : Int32) (x3 : Int32) (w1 : Int32) (st : Nat → Int32) : Option (Int32) := (f_X1_hardnessOf x3 st).bind fun q1 => (f_X0_gapAt x1 w1).bind fun q2 => (f_X7_flowOf q1 q2).bind fun q3 => lt ((if 0 ≤ (q3 - (st (0 : Int32).toNatClampNeg)) then (q3 - (st (0 : Int32).toNatClampNeg)) else 0 - (q3 - (st (0 : Int32).toNatClampNeg)))) fun v4 => some v4
abbrev rmX1_awayAtDial_1 : Room := { frames := 2, cells := 0, slots := 0, locals := 42 }
set_option maxHeartbeats 4000000 in
set_option maxRecDepth 100000 in
theorem c_X1_awayAtDial_1 (gh : Nat) (a : Nat → Nat) (x1 : Int32) (x3 : Int32) (pA : Nat → Int32) (pM : Nat → Int32) (pn : Int32) (pt : Int32) (d0 : Int32) (w0 : Int32) (g0 : Int32) (k0 : Int32) (d1 : Int32) (w1 : Int32) (g1 : Int32) (k1 : Int32) (qA : Nat → Int32) (qM : Nat → Int32) (qn : Int32) (qt : Int32) (uA : Nat → Int32) (uM : Nat → Int32) (un : Int32) (ut : Int32) (sF : Nat → Int32) (sk : Int32) (sm : Int32) (st : Nat → Int32) (se : Int32) (fi : Int32) (gr : Int32) (br : Int32) (pu : Int32) (nr : Int32) (R : Int32) (hf : f_X1_awayAtDial_1 x1 x3 w1 st = some R) : RdI l yX1_awayAtDial wsX1_awayAtDial rmX1_awayAtDial_1 D cI cC (w_grinder cI cC gh a pA pM pn pt d0 w0 g0 k0 d1 w1 g1 k1 qA qM qn qt uA uM un ut sF sk sm st se fi gr br pu nr) [.ref gh, .int x1, .ref (a 6), .int x3] R := by
  refine en_R (cc := cX1_awayAtDial) (n := 4) (by decide) rfl (Nat.le_of_ble_eq_true rfl) ?_
  intro p e s m args below meth c Q AA ls hx hb hml hown hts hK hN hP hD hl ret
  have hown : s.vm.findClass RX1 = some m.cls := hown
  have hF : FX p m c cX1_awayAtDial 4 s args wsX1_awayAtDial RX1 D cI cC := ⟨⟨hx, hb, hml, hown, hts⟩, hK, hN⟩
  have hl : lv_has ls 4 [(0, .ref gh), (1, .int x1), (2, .ref (a 6)), (3, .int x3)] := hl
  have k1_ := hts (.fieldLink RX1 47 "DriftGrinders$Grinder" "settings" "[I") (List.mem_of_getElem? (i := 1) rfl)
  have k20_ := hts (.static yX7_flowOf) (List.mem_of_getElem? (i := 20) rfl)
  have k21_ := hts (.initialized RX7) (List.mem_of_getElem? (i := 21) rfl)
  have k2_ := hts (.methodLink RX1 166 Lib.Math.abs.name) (List.mem_of_getElem? (i := 2) rfl)
  have k3_ := hts (.static Lib.Math.abs.name) (List.mem_of_getElem? (i := 3) rfl)
  have k4_ := hts (.initialized "java/lang/Math") (List.mem_of_getElem? (i := 4) rfl)
  have k5_ := hts (.code Lib.Math.abs.name Lib.Math.abs.code 1 (some .int)) (List.mem_of_getElem? (i := 5) rfl)
  have n1_ : ∀ w ∈ wsX10, w ∈ wsX1_awayAtDial := fun _ h => List.mem_cons_of_mem _ (List.mem_append_left _ (List.mem_append_right _ h))
  rw [f_X1_awayAtDial_1] at hf
  refine lv_aload_n hx hb dX1_awayAtDial_0 rfl (lv_at hl 0 rfl) ?_
  refine lv_iload_n hx hb dX1_awayAtDial_1 rfl (lv_at hl 3 rfl) ?_
  obtain ⟨q1, hq1, hf⟩ := ob hf
  refine cl_RV (As := [.int x3]) (rest := []) hF hP hD (c_X1_hardnessOf gh a x3 pA pM pn pt d0 w0 g0 k0 d1 w1 g1 k1 qA qM qn qt uA uM un ut sF sk sm st se fi gr br pu nr q1 hq1) (cwV 1 hts gX1_awayAtDial_X1_hardnessOf rfl rfl rfl (by decide +kernel) ⟨(Nat.le_of_ble_eq_true rfl), (Nat.le_of_ble_eq_true rfl)⟩) [0, 1, 2, 3, 4, 5, 6, 7, 8, 9, 10, 11, 12, 13, 14, 15] rfl (by decide) (va_recv hK hP (ci := 1) (q0 := 0) rfl rfl) rfl rfl hl.1 (Nat.le_of_ble_eq_true rfl) dX1_awayAtDial_2 ⟨Nat.zero_le _, Nat.zero_le _⟩ ?_
  refine lv_aload_n hx hb dX1_awayAtDial_5 rfl (lv_at hl 2 rfl) ?_
  refine lv_iload_n hx hb dX1_awayAtDial_6 rfl (lv_at hl 1 rfl) ?_
  obtain ⟨q2, hq2, hf⟩ := ob hf
  refine cl_RV (As := [.int x1]) (rest := [.int q1]) hF hP hD (c_X0_gapAt (a 6) x1 d1 w1 g1 k1 q2 hq2) (cwV 1 hts gX1_awayAtDial_X0_gapAt rfl rfl rfl (by decide +kernel) ⟨(Nat.le_of_ble_eq_true rfl), (Nat.le_of_ble_eq_true rfl)⟩) [6] rfl (by decide) (va_recv hK hP (ci := 0) (q0 := 6) rfl rfl) rfl rfl hl.1 (Nat.le_of_ble_eq_true rfl) dX1_awayAtDial_7 ⟨Nat.zero_le _, Nat.zero_le _⟩ ?_
  obtain ⟨q3, hq3, hf⟩ := ob hf
  refine cl_RN (As := [.int q1, .int q2]) (rest := []) hF hP hD (c_X7_flowOf q1 q2 q3 hq3) ⟨va_cnB 2 hts gX1_awayAtDial_X7_flowOf_n191 rfl rfl rfl (hN.nw 30 rfl) k21_ (by decide +kernel) ⟨(Nat.le_of_ble_eq_true rfl), (Nat.le_of_ble_eq_true rfl)⟩, k20_, trivial⟩ [] rfl (by decide) rfl rfl hl.1 (Nat.le_of_ble_eq_true rfl) dX1_awayAtDial_10 ⟨Nat.zero_le _, Nat.zero_le _⟩ ?_
  refine lv_aload_n hx hb dX1_awayAtDial_13 rfl (lv_at hl 0 rfl) ?_
  refine va_get hx hb hts n1_ hown hK hP 0 rfl rfl 6 (Nat.le_of_ble_eq_true rfl) k1_ (fun _ h => h) rfl dX1_awayAtDial_14 ?_
  refine lv_iconst (v := (0 : Int32)) hx hb dX1_awayAtDial_17 (by decide) ?_
  refine va_iald hx hb hK hP 15 0 rfl rfl (show ¬ ((0 : Int32) < 0 ∨ 6 ≤ (0 : Int32).toNatClampNeg) by decide) dX1_awayAtDial_18 ?_
  refine lv_isub hx hb dX1_awayAtDial_19 ?_
  refine va_mabs hx hb (hml.trans hl.1.symm) hown k2_ k3_ k4_ k5_ (Nat.le_of_ble_eq_true rfl) (Nat.le_of_ble_eq_true rfl) (Nat.zero_le _) (Nat.zero_le _) dX1_awayAtDial_20 ?_
  refine lv_topi (fun v4 ev4 => ?_)
  replace hf := lt_e ev4 hf
  obtain rfl := Option.some.inj hf
  exact ret 23 ls _ dX1_awayAtDial_23 rfl rfl
noncomputable def f_X1_nearestDial_0_J33 (r5 : Int32 → Int32 → Option (Int32)) (w0 : Int32) (st : Nat → Int32) (y2_5 : Int32) (y3_33 : Int32) (y4_33 : Int32) : Option (Int32) := lt (y4_33 + (1 : Int32)) fun v5 => r5 y3_33 v5
noncomputable def f_X1_nearestDial_0_L5 (w0 : Int32) (st : Nat → Int32) (y2_5 : Int32) : Nat → Int32 → Int32 → Option (Int32)
  | 0, _, _ => none
  | fu + 1, y3_5, y4_5 => (if (60 : Int32) < y4_5 then some y3_5 else (f_X1_awayAtDial_0 y4_5 y2_5 w0 st).bind fun q2 => (f_X1_awayAtDial_0 y3_5 y2_5 w0 st).bind fun q3 => (if q3 ≤ q2 then f_X1_nearestDial_0_J33 (f_X1_nearestDial_0_L5 w0 st y2_5 fu) w0 st y2_5 y3_5 y4_5 else f_X1_nearestDial_0_J33 (f_X1_nearestDial_0_L5 w0 st y2_5 fu) w0 st y2_5 y4_5 y4_5))
noncomputable def f_X1_nearestDial_0 (x2 : Int32) (w0 : Int32) (st : Nat → Int32) : Option (Int32) := f_X1_nearestDial_0_L5 w0 st x2 FU (1 : Int32) (2 : Int32)
abbrev rmX1_nearestDial_0 : Room := { frames := 3, cells := 0, slots := 0, locals := 65 }
set_option maxHeartbeats 4000000 in
set_option maxRecDepth 100000 in
theorem c_X1_nearestDial_0 (gh : Nat) (a : Nat → Nat) (x2 : Int32) (pA : Nat → Int32) (pM : Nat → Int32) (pn : Int32) (pt : Int32) (d0 : Int32) (w0 : Int32) (g0 : Int32) (k0 : Int32) (d1 : Int32) (w1 : Int32) (g1 : Int32) (k1 : Int32) (qA : Nat → Int32) (qM : Nat → Int32) (qn : Int32) (qt : Int32) (uA : Nat → Int32) (uM : Nat → Int32) (un : Int32) (ut : Int32) (sF : Nat → Int32) (sk : Int32) (sm : Int32) (st : Nat → Int32) (se : Int32) (fi : Int32) (gr : Int32) (br : Int32) (pu : Int32) (nr : Int32) (R : Int32) (hf : f_X1_nearestDial_0 x2 w0 st = some R) : RdI l yX1_nearestDial wsX1_nearestDial rmX1_nearestDial_0 D cI cC (w_grinder cI cC gh a pA pM pn pt d0 w0 g0 k0 d1 w1 g1 k1 qA qM qn qt uA uM un ut sF sk sm st se fi gr br pu nr) [.ref gh, .ref (a 5), .int x2] R := by
  refine en_R (cc := cX1_nearestDial) (n := 5) (by decide) rfl (Nat.le_of_ble_eq_true rfl) ?_
  intro p e s m args below meth c Q AA ls hx hb hml hown hts hK hN hP hD hl ret
  have hown : s.vm.findClass RX1 = some m.cls := hown
  have hF : FX p m c cX1_nearestDial 5 s args wsX1_nearestDial RX1 D cI cC := ⟨⟨hx, hb, hml, hown, hts⟩, hK, hN⟩
  have hl : lv_has ls 5 [(0, .ref gh), (1, .ref (a 5)), (2, .int x2)] := hl
  have L5 : ∀ n5 : Nat, ∀ (y2_5 : Int32) (y3_5 : Int32) (y4_5 : Int32), ∀ ls : Array Slot, lv_has ls 5 [(0, .ref gh), (1, .ref (a 5)), (2, .int y2_5), (3, .int y3_5), (4, .int y4_5)] → f_X1_nearestDial_0_L5 w0 st y2_5 n5 y3_5 y4_5 = some R → W p l e rmX1_nearestDial_0 s m args below meth c s.heap [] 0 0 Q (F0 m 5 ls []) := by
    intro n5
    induction n5 with
    | zero => intro y2_5 y3_5 y4_5 ls hl hf; rw [f_X1_nearestDial_0_L5] at hf; cases hf
    | succ n5 IH5 =>
      intro y2_5 y3_5 y4_5 ls hl hf
      have J33 : ∀ (y3_33 : Int32) (y4_33 : Int32), ∀ ls : Array Slot, lv_has ls 5 [(0, .ref gh), (1, .ref (a 5)), (2, .int y2_5), (3, .int y3_33), (4, .int y4_33)] → f_X1_nearestDial_0_J33 (f_X1_nearestDial_0_L5 w0 st y2_5 n5) w0 st y2_5 y3_33 y4_33 = some R → W p l e rmX1_nearestDial_0 s m args below meth c s.heap [] 0 0 Q (F0 m 33 ls []) := by
        intro y3_33 y4_33 ls hl hf
        rw [f_X1_nearestDial_0_J33] at hf
        obtain ⟨v5, ev5⟩ : ∃ z : Int32, z = y4_33 + (1 : Int32) := ⟨_, rfl⟩
        replace hf := lt_e ev5 hf
        refine lv_iinc (v := v5) (lv' := [(4, .int v5), (0, .ref gh), (1, .ref (a 5)), (2, .int y2_5), (3, .int y3_33)]) hx hb dX1_nearestDial_33 hl (k := 4) rfl (by rw [ev5]; rfl) (by decide) rfl (fun ls hl => ?_)
        refine lv_goto (tgt := 5) hx hb dX1_nearestDial_36 (by decide) ?_
        exact IH5 y2_5 y3_33 v5 ls (lv_sub hl [1, 2, 3, 4, 0] rfl) hf
      rw [f_X1_nearestDial_0_L5] at hf
      refine lv_iload hx hb dX1_nearestDial_5 (lv_at hl 4 rfl) ?_
      refine lv_bipush (v := (60 : Int32)) hx hb dX1_nearestDial_7 (by decide) ?_
      refine lv_icmp_gt (tgt := 39) hx hb dX1_nearestDial_9 (by decide) (fun hc1 => ?_) (fun hc1 => ?_)
      · replace hf := it hc1 hf
        refine lv_iload_n hx hb dX1_nearestDial_39 rfl (lv_at hl 3 rfl) ?_
        obtain rfl := Option.some.inj hf
        exact ret 40 ls _ dX1_nearestDial_40 rfl rfl
      · replace hf := ie hc1 hf
        refine lv_aload_n hx hb dX1_nearestDial_12 rfl (lv_at hl 0 rfl) ?_
        refine lv_iload hx hb dX1_nearestDial_13 (lv_at hl 4 rfl) ?_
        refine lv_aload_n hx hb dX1_nearestDial_15 rfl (lv_at hl 1 rfl) ?_
        refine lv_iload_n hx hb dX1_nearestDial_16 rfl (lv_at hl 2 rfl) ?_
        obtain ⟨q2, hq2, hf⟩ := ob hf
        refine cl_RV (As := [.int y4_5, .ref (a 5), .int y2_5]) (rest := []) hF hP hD (c_X1_awayAtDial_0 gh a y4_5 y2_5 pA pM pn pt d0 w0 g0 k0 d1 w1 g1 k1 qA qM qn qt uA uM un ut sF sk sm st se fi gr br pu nr q2 hq2) (cwV 3 hts gX1_nearestDial_X1_awayAtDial rfl rfl rfl (by decide +kernel) ⟨(Nat.le_of_ble_eq_true rfl), (Nat.le_of_ble_eq_true rfl)⟩) [0, 1, 2, 3, 4, 5, 6, 7, 8, 9, 10, 11, 12, 13, 14, 15] rfl (by decide) (va_recv hK hP (ci := 1) (q0 := 0) rfl rfl) rfl rfl hl.1 (Nat.le_of_ble_eq_true rfl) dX1_nearestDial_17 ⟨Nat.zero_le _, Nat.zero_le _⟩ ?_
        refine lv_aload_n hx hb dX1_nearestDial_20 rfl (lv_at hl 0 rfl) ?_
        refine lv_iload_n hx hb dX1_nearestDial_21 rfl (lv_at hl 3 rfl) ?_
        refine lv_aload_n hx hb dX1_nearestDial_22 rfl (lv_at hl 1 rfl) ?_
        refine lv_iload_n hx hb dX1_nearestDial_23 rfl (lv_at hl 2 rfl) ?_
        obtain ⟨q3, hq3, hf⟩ := ob hf
        refine cl_RV (As := [.int y3_5, .ref (a 5), .int y2_5]) (rest := [.int q2]) hF hP hD (c_X1_awayAtDial_0 gh a y3_5 y2_5 pA pM pn pt d0 w0 g0 k0 d1 w1 g1 k1 qA qM qn qt uA uM un ut sF sk sm st se fi gr br pu nr q3 hq3) (cwV 3 hts gX1_nearestDial_X1_awayAtDial rfl rfl rfl (by decide +kernel) ⟨(Nat.le_of_ble_eq_true rfl), (Nat.le_of_ble_eq_true rfl)⟩) [0, 1, 2, 3, 4, 5, 6, 7, 8, 9, 10, 11, 12, 13, 14, 15] rfl (by decide) (va_recv hK hP (ci := 1) (q0 := 0) rfl rfl) rfl rfl hl.1 (Nat.le_of_ble_eq_true rfl) dX1_nearestDial_24 ⟨Nat.zero_le _, Nat.zero_le _⟩ ?_
        refine lv_icmp_ge (tgt := 33) hx hb dX1_nearestDial_27 (by decide) (fun hc4 => ?_) (fun hc4 => ?_)
        · replace hf := it hc4 hf
          exact J33 y3_5 y4_5 ls (lv_sub hl [0, 1, 2, 3, 4] rfl) hf
        · replace hf := ie hc4 hf
          refine lv_iload hx hb dX1_nearestDial_30 (lv_at hl 4 rfl) ?_
          refine lv_istore_n (lv' := [(3, .int y4_5), (0, .ref gh), (1, .ref (a 5)), (2, .int y2_5), (4, .int y4_5)]) hx hb dX1_nearestDial_32 rfl hl (by decide) rfl (fun ls hl => ?_)
          exact J33 y4_5 y4_5 ls (lv_sub hl [1, 2, 3, 0, 4] rfl) hf
  rw [f_X1_nearestDial_0] at hf
  refine lv_iconst (v := (1 : Int32)) hx hb dX1_nearestDial_0 (by decide) ?_
  refine lv_istore_n (lv' := [(3, .int (1 : Int32)), (0, .ref gh), (1, .ref (a 5)), (2, .int x2)]) hx hb dX1_nearestDial_1 rfl hl (by decide) rfl (fun ls hl => ?_)
  refine lv_iconst (v := (2 : Int32)) hx hb dX1_nearestDial_2 (by decide) ?_
  refine lv_istore (lv' := [(4, .int (2 : Int32)), (3, .int (1 : Int32)), (0, .ref gh), (1, .ref (a 5)), (2, .int x2)]) hx hb dX1_nearestDial_3 hl (by decide) rfl (fun ls hl => ?_)
  exact L5 FU x2 (1 : Int32) (2 : Int32) ls (lv_sub hl [2, 3, 4, 1, 0] rfl) hf
noncomputable def f_X1_nearestDial_1_J33 (r5 : Int32 → Int32 → Option (Int32)) (w1 : Int32) (st : Nat → Int32) (y2_5 : Int32) (y3_33 : Int32) (y4_33 : Int32) : Option (Int32) := lt (y4_33 + (1 : Int32)) fun v5 => r5 y3_33 v5
noncomputable def f_X1_nearestDial_1_L5 (w1 : Int32) (st : Nat → Int32) (y2_5 : Int32) : Nat → Int32 → Int32 → Option (Int32)
  | 0, _, _ => none
  | fu + 1, y3_5, y4_5 => (if (60 : Int32) < y4_5 then some y3_5 else (f_X1_awayAtDial_1 y4_5 y2_5 w1 st).bind fun q2 => (f_X1_awayAtDial_1 y3_5 y2_5 w1 st).bind fun q3 => (if q3 ≤ q2 then f_X1_nearestDial_1_J33 (f_X1_nearestDial_1_L5 w1 st y2_5 fu) w1 st y2_5 y3_5 y4_5 else f_X1_nearestDial_1_J33 (f_X1_nearestDial_1_L5 w1 st y2_5 fu) w1 st y2_5 y4_5 y4_5))
noncomputable def f_X1_nearestDial_1 (x2 : Int32) (w1 : Int32) (st : Nat → Int32) : Option (Int32) := f_X1_nearestDial_1_L5 w1 st x2 FU (1 : Int32) (2 : Int32)
abbrev rmX1_nearestDial_1 : Room := { frames := 3, cells := 0, slots := 0, locals := 65 }
set_option maxHeartbeats 4000000 in
set_option maxRecDepth 100000 in
theorem c_X1_nearestDial_1 (gh : Nat) (a : Nat → Nat) (x2 : Int32) (pA : Nat → Int32) (pM : Nat → Int32) (pn : Int32) (pt : Int32) (d0 : Int32) (w0 : Int32) (g0 : Int32) (k0 : Int32) (d1 : Int32) (w1 : Int32) (g1 : Int32) (k1 : Int32) (qA : Nat → Int32) (qM : Nat → Int32) (qn : Int32) (qt : Int32) (uA : Nat → Int32) (uM : Nat → Int32) (un : Int32) (ut : Int32) (sF : Nat → Int32) (sk : Int32) (sm : Int32) (st : Nat → Int32) (se : Int32) (fi : Int32) (gr : Int32) (br : Int32) (pu : Int32) (nr : Int32) (R : Int32) (hf : f_X1_nearestDial_1 x2 w1 st = some R) : RdI l yX1_nearestDial wsX1_nearestDial rmX1_nearestDial_1 D cI cC (w_grinder cI cC gh a pA pM pn pt d0 w0 g0 k0 d1 w1 g1 k1 qA qM qn qt uA uM un ut sF sk sm st se fi gr br pu nr) [.ref gh, .ref (a 6), .int x2] R := by
  refine en_R (cc := cX1_nearestDial) (n := 5) (by decide) rfl (Nat.le_of_ble_eq_true rfl) ?_
  intro p e s m args below meth c Q AA ls hx hb hml hown hts hK hN hP hD hl ret
  have hown : s.vm.findClass RX1 = some m.cls := hown
  have hF : FX p m c cX1_nearestDial 5 s args wsX1_nearestDial RX1 D cI cC := ⟨⟨hx, hb, hml, hown, hts⟩, hK, hN⟩
  have hl : lv_has ls 5 [(0, .ref gh), (1, .ref (a 6)), (2, .int x2)] := hl
  have L5 : ∀ n5 : Nat, ∀ (y2_5 : Int32) (y3_5 : Int32) (y4_5 : Int32), ∀ ls : Array Slot, lv_has ls 5 [(0, .ref gh), (1, .ref (a 6)), (2, .int y2_5), (3, .int y3_5), (4, .int y4_5)] → f_X1_nearestDial_1_L5 w1 st y2_5 n5 y3_5 y4_5 = some R → W p l e rmX1_nearestDial_1 s m args below meth c s.heap [] 0 0 Q (F0 m 5 ls []) := by
    intro n5
    induction n5 with
    | zero => intro y2_5 y3_5 y4_5 ls hl hf; rw [f_X1_nearestDial_1_L5] at hf; cases hf
    | succ n5 IH5 =>
      intro y2_5 y3_5 y4_5 ls hl hf
      have J33 : ∀ (y3_33 : Int32) (y4_33 : Int32), ∀ ls : Array Slot, lv_has ls 5 [(0, .ref gh), (1, .ref (a 6)), (2, .int y2_5), (3, .int y3_33), (4, .int y4_33)] → f_X1_nearestDial_1_J33 (f_X1_nearestDial_1_L5 w1 st y2_5 n5) w1 st y2_5 y3_33 y4_33 = some R → W p l e rmX1_nearestDial_1 s m args below meth c s.heap [] 0 0 Q (F0 m 33 ls []) := by
        intro y3_33 y4_33 ls hl hf
        rw [f_X1_nearestDial_1_J33] at hf
        obtain ⟨v5, ev5⟩ : ∃ z : Int32, z = y4_33 + (1 : Int32) := ⟨_, rfl⟩
        replace hf := lt_e ev5 hf
        refine lv_iinc (v := v5) (lv' := [(4, .int v5), (0, .ref gh), (1, .ref (a 6)), (2, .int y2_5), (3, .int y3_33)]) hx hb dX1_nearestDial_33 hl (k := 4) rfl (by rw [ev5]; rfl) (by decide) rfl (fun ls hl => ?_)
        refine lv_goto (tgt := 5) hx hb dX1_nearestDial_36 (by decide) ?_
        exact IH5 y2_5 y3_33 v5 ls (lv_sub hl [1, 2, 3, 4, 0] rfl) hf
      rw [f_X1_nearestDial_1_L5] at hf
      refine lv_iload hx hb dX1_nearestDial_5 (lv_at hl 4 rfl) ?_
      refine lv_bipush (v := (60 : Int32)) hx hb dX1_nearestDial_7 (by decide) ?_
      refine lv_icmp_gt (tgt := 39) hx hb dX1_nearestDial_9 (by decide) (fun hc1 => ?_) (fun hc1 => ?_)
      · replace hf := it hc1 hf
        refine lv_iload_n hx hb dX1_nearestDial_39 rfl (lv_at hl 3 rfl) ?_
        obtain rfl := Option.some.inj hf
        exact ret 40 ls _ dX1_nearestDial_40 rfl rfl
      · replace hf := ie hc1 hf
        refine lv_aload_n hx hb dX1_nearestDial_12 rfl (lv_at hl 0 rfl) ?_
        refine lv_iload hx hb dX1_nearestDial_13 (lv_at hl 4 rfl) ?_
        refine lv_aload_n hx hb dX1_nearestDial_15 rfl (lv_at hl 1 rfl) ?_
        refine lv_iload_n hx hb dX1_nearestDial_16 rfl (lv_at hl 2 rfl) ?_
        obtain ⟨q2, hq2, hf⟩ := ob hf
        refine cl_RV (As := [.int y4_5, .ref (a 6), .int y2_5]) (rest := []) hF hP hD (c_X1_awayAtDial_1 gh a y4_5 y2_5 pA pM pn pt d0 w0 g0 k0 d1 w1 g1 k1 qA qM qn qt uA uM un ut sF sk sm st se fi gr br pu nr q2 hq2) (cwV 3 hts gX1_nearestDial_X1_awayAtDial rfl rfl rfl (by decide +kernel) ⟨(Nat.le_of_ble_eq_true rfl), (Nat.le_of_ble_eq_true rfl)⟩) [0, 1, 2, 3, 4, 5, 6, 7, 8, 9, 10, 11, 12, 13, 14, 15] rfl (by decide) (va_recv hK hP (ci := 1) (q0 := 0) rfl rfl) rfl rfl hl.1 (Nat.le_of_ble_eq_true rfl) dX1_nearestDial_17 ⟨Nat.zero_le _, Nat.zero_le _⟩ ?_
        refine lv_aload_n hx hb dX1_nearestDial_20 rfl (lv_at hl 0 rfl) ?_
        refine lv_iload_n hx hb dX1_nearestDial_21 rfl (lv_at hl 3 rfl) ?_
        refine lv_aload_n hx hb dX1_nearestDial_22 rfl (lv_at hl 1 rfl) ?_
        refine lv_iload_n hx hb dX1_nearestDial_23 rfl (lv_at hl 2 rfl) ?_
        obtain ⟨q3, hq3, hf⟩ := ob hf
        refine cl_RV (As := [.int y3_5, .ref (a 6), .int y2_5]) (rest := [.int q2]) hF hP hD (c_X1_awayAtDial_1 gh a y3_5 y2_5 pA pM pn pt d0 w0 g0 k0 d1 w1 g1 k1 qA qM qn qt uA uM un ut sF sk sm st se fi gr br pu nr q3 hq3) (cwV 3 hts gX1_nearestDial_X1_awayAtDial rfl rfl rfl (by decide +kernel) ⟨(Nat.le_of_ble_eq_true rfl), (Nat.le_of_ble_eq_true rfl)⟩) [0, 1, 2, 3, 4, 5, 6, 7, 8, 9, 10, 11, 12, 13, 14, 15] rfl (by decide) (va_recv hK hP (ci := 1) (q0 := 0) rfl rfl) rfl rfl hl.1 (Nat.le_of_ble_eq_true rfl) dX1_nearestDial_24 ⟨Nat.zero_le _, Nat.zero_le _⟩ ?_
        refine lv_icmp_ge (tgt := 33) hx hb dX1_nearestDial_27 (by decide) (fun hc4 => ?_) (fun hc4 => ?_)
        · replace hf := it hc4 hf
          exact J33 y3_5 y4_5 ls (lv_sub hl [0, 1, 2, 3, 4] rfl) hf
        · replace hf := ie hc4 hf
          refine lv_iload hx hb dX1_nearestDial_30 (lv_at hl 4 rfl) ?_
          refine lv_istore_n (lv' := [(3, .int y4_5), (0, .ref gh), (1, .ref (a 6)), (2, .int y2_5), (4, .int y4_5)]) hx hb dX1_nearestDial_32 rfl hl (by decide) rfl (fun ls hl => ?_)
          exact J33 y4_5 y4_5 ls (lv_sub hl [1, 2, 3, 0, 4] rfl) hf
  rw [f_X1_nearestDial_1] at hf
  refine lv_iconst (v := (1 : Int32)) hx hb dX1_nearestDial_0 (by decide) ?_
  refine lv_istore_n (lv' := [(3, .int (1 : Int32)), (0, .ref gh), (1, .ref (a 6)), (2, .int x2)]) hx hb dX1_nearestDial_1 rfl hl (by decide) rfl (fun ls hl => ?_)
  refine lv_iconst (v := (2 : Int32)) hx hb dX1_nearestDial_2 (by decide) ?_
  refine lv_istore (lv' := [(4, .int (2 : Int32)), (3, .int (1 : Int32)), (0, .ref gh), (1, .ref (a 6)), (2, .int x2)]) hx hb dX1_nearestDial_3 hl (by decide) rfl (fun ls hl => ?_)
  exact L5 FU x2 (1 : Int32) (2 : Int32) ls (lv_sub hl [2, 3, 4, 1, 0] rfl) hf
noncomputable def f_X1_secondsToCool_0 (x2 : Int32) (w0 : Int32) (se : Int32) : Option (Int32) := (f_X0_coolingsTo x2 w0).bind fun q1 => (if (1 : Int32) ≤ q1 then some ((q1 * (10 : Int32)) - (se - se / (10 : Int32) * (10 : Int32))) else some (0 : Int32))
abbrev rmX1_secondsToCool_0 : Room := { frames := 3, cells := 0, slots := 0, locals := 43 }
set_option maxHeartbeats 4000000 in
set_option maxRecDepth 100000 in
theorem c_X1_secondsToCool_0 (gh : Nat) (a : Nat → Nat) (x2 : Int32) (pA : Nat → Int32) (pM : Nat → Int32) (pn : Int32) (pt : Int32) (d0 : Int32) (w0 : Int32) (g0 : Int32) (k0 : Int32) (d1 : Int32) (w1 : Int32) (g1 : Int32) (k1 : Int32) (qA : Nat → Int32) (qM : Nat → Int32) (qn : Int32) (qt : Int32) (uA : Nat → Int32) (uM : Nat → Int32) (un : Int32) (ut : Int32) (sF : Nat → Int32) (sk : Int32) (sm : Int32) (st : Nat → Int32) (se : Int32) (fi : Int32) (gr : Int32) (br : Int32) (pu : Int32) (nr : Int32) (R : Int32) (hf : f_X1_secondsToCool_0 x2 w0 se = some R) : RdI l yX1_secondsToCool wsX1_secondsToCool rmX1_secondsToCool_0 D cI cC (w_grinder cI cC gh a pA pM pn pt d0 w0 g0 k0 d1 w1 g1 k1 qA qM qn qt uA uM un ut sF sk sm st se fi gr br pu nr) [.ref gh, .ref (a 5), .int x2] R := by
  refine en_R (cc := cX1_secondsToCool) (n := 4) (by decide) rfl (Nat.le_of_ble_eq_true rfl) ?_
  intro p e s m args below meth c Q AA ls hx hb hml hown hts hK hN hP hD hl ret
  have hown : s.vm.findClass RX1 = some m.cls := hown
  have hF : FX p m c cX1_secondsToCool 4 s args wsX1_secondsToCool RX1 D cI cC := ⟨⟨hx, hb, hml, hown, hts⟩, hK, hN⟩
  have hl : lv_has ls 4 [(0, .ref gh), (1, .ref (a 5)), (2, .int x2)] := hl
  have k1_ := hts (.fieldLink RX1 70 "DriftGrinders$Grinder" "second" "I") (List.mem_of_getElem? (i := 1) rfl)
  have n1_ : ∀ w ∈ wsX10, w ∈ wsX1_secondsToCool := fun _ h => List.mem_cons_of_mem _ (List.mem_append_left _ (List.mem_append_right _ h))
  rw [f_X1_secondsToCool_0] at hf
  refine lv_aload_n hx hb dX1_secondsToCool_0 rfl (lv_at hl 1 rfl) ?_
  refine lv_iload_n hx hb dX1_secondsToCool_1 rfl (lv_at hl 2 rfl) ?_
  obtain ⟨q1, hq1, hf⟩ := ob hf
  refine cl_RV (As := [.int x2]) (rest := []) hF hP hD (c_X0_coolingsTo (a 5) x2 d0 w0 g0 k0 q1 hq1) (cwV 1 hts gX1_secondsToCool_X0_coolingsTo rfl rfl rfl (by decide +kernel) ⟨(Nat.le_of_ble_eq_true rfl), (Nat.le_of_ble_eq_true rfl)⟩) [5] rfl (by decide) (va_recv hK hP (ci := 0) (q0 := 5) rfl rfl) rfl rfl hl.1 (Nat.le_of_ble_eq_true rfl) dX1_secondsToCool_2 ⟨Nat.zero_le _, Nat.zero_le _⟩ ?_
  refine lv_istore_n (lv' := [(3, .int q1), (0, .ref gh), (1, .ref (a 5)), (2, .int x2)]) hx hb dX1_secondsToCool_5 rfl hl (by decide) rfl (fun ls hl => ?_)
  refine lv_iload_n hx hb dX1_secondsToCool_6 rfl (lv_at hl 0 rfl) ?_
  refine lv_iconst (v := (1 : Int32)) hx hb dX1_secondsToCool_7 (by decide) ?_
  refine lv_icmp_ge (tgt := 15) hx hb dX1_secondsToCool_8 (by decide) (fun hc2 => ?_) (fun hc2 => ?_)
  · replace hf := it hc2 hf
    refine lv_iload_n hx hb dX1_secondsToCool_15 rfl (lv_at hl 0 rfl) ?_
    refine lv_bipush (v := (10 : Int32)) hx hb dX1_secondsToCool_16 (by decide) ?_
    refine lv_imul hx hb dX1_secondsToCool_18 ?_
    refine lv_aload_n hx hb dX1_secondsToCool_19 rfl (lv_at hl 1 rfl) ?_
    refine va_get hx hb hts n1_ hown hK hP 0 rfl rfl 7 (Nat.le_of_ble_eq_true rfl) k1_ (fun _ h => h) rfl dX1_secondsToCool_20 ?_
    refine lv_bipush (v := (10 : Int32)) hx hb dX1_secondsToCool_23 (by decide) ?_
    refine lv_irem hx hb dX1_secondsToCool_25 (by decide) ?_
    refine lv_isub hx hb dX1_secondsToCool_26 ?_
    obtain rfl := Option.some.inj hf
    exact ret 27 ls _ dX1_secondsToCool_27 rfl rfl
  · replace hf := ie hc2 hf
    refine lv_iconst (v := (0 : Int32)) hx hb dX1_secondsToCool_11 (by decide) ?_
    refine lv_goto (tgt := 27) hx hb dX1_secondsToCool_12 (by decide) ?_
    obtain rfl := Option.some.inj hf
    exact ret 27 ls _ dX1_secondsToCool_27 rfl rfl
noncomputable def f_X1_secondsToCool_1 (x2 : Int32) (w1 : Int32) (se : Int32) : Option (Int32) := (f_X0_coolingsTo x2 w1).bind fun q1 => (if (1 : Int32) ≤ q1 then some ((q1 * (10 : Int32)) - (se - se / (10 : Int32) * (10 : Int32))) else some (0 : Int32))
abbrev rmX1_secondsToCool_1 : Room := { frames := 3, cells := 0, slots := 0, locals := 43 }
set_option maxHeartbeats 4000000 in
set_option maxRecDepth 100000 in
theorem c_X1_secondsToCool_1 (gh : Nat) (a : Nat → Nat) (x2 : Int32) (pA : Nat → Int32) (pM : Nat → Int32) (pn : Int32) (pt : Int32) (d0 : Int32) (w0 : Int32) (g0 : Int32) (k0 : Int32) (d1 : Int32) (w1 : Int32) (g1 : Int32) (k1 : Int32) (qA : Nat → Int32) (qM : Nat → Int32) (qn : Int32) (qt : Int32) (uA : Nat → Int32) (uM : Nat → Int32) (un : Int32) (ut : Int32) (sF : Nat → Int32) (sk : Int32) (sm : Int32) (st : Nat → Int32) (se : Int32) (fi : Int32) (gr : Int32) (br : Int32) (pu : Int32) (nr : Int32) (R : Int32) (hf : f_X1_secondsToCool_1 x2 w1 se = some R) : RdI l yX1_secondsToCool wsX1_secondsToCool rmX1_secondsToCool_1 D cI cC (w_grinder cI cC gh a pA pM pn pt d0 w0 g0 k0 d1 w1 g1 k1 qA qM qn qt uA uM un ut sF sk sm st se fi gr br pu nr) [.ref gh, .ref (a 6), .int x2] R := by
  refine en_R (cc := cX1_secondsToCool) (n := 4) (by decide) rfl (Nat.le_of_ble_eq_true rfl) ?_
  intro p e s m args below meth c Q AA ls hx hb hml hown hts hK hN hP hD hl ret
  have hown : s.vm.findClass RX1 = some m.cls := hown
  have hF : FX p m c cX1_secondsToCool 4 s args wsX1_secondsToCool RX1 D cI cC := ⟨⟨hx, hb, hml, hown, hts⟩, hK, hN⟩
  have hl : lv_has ls 4 [(0, .ref gh), (1, .ref (a 6)), (2, .int x2)] := hl
  have k1_ := hts (.fieldLink RX1 70 "DriftGrinders$Grinder" "second" "I") (List.mem_of_getElem? (i := 1) rfl)
  have n1_ : ∀ w ∈ wsX10, w ∈ wsX1_secondsToCool := fun _ h => List.mem_cons_of_mem _ (List.mem_append_left _ (List.mem_append_right _ h))
  rw [f_X1_secondsToCool_1] at hf
  refine lv_aload_n hx hb dX1_secondsToCool_0 rfl (lv_at hl 1 rfl) ?_
  refine lv_iload_n hx hb dX1_secondsToCool_1 rfl (lv_at hl 2 rfl) ?_
  obtain ⟨q1, hq1, hf⟩ := ob hf
  refine cl_RV (As := [.int x2]) (rest := []) hF hP hD (c_X0_coolingsTo (a 6) x2 d1 w1 g1 k1 q1 hq1) (cwV 1 hts gX1_secondsToCool_X0_coolingsTo rfl rfl rfl (by decide +kernel) ⟨(Nat.le_of_ble_eq_true rfl), (Nat.le_of_ble_eq_true rfl)⟩) [6] rfl (by decide) (va_recv hK hP (ci := 0) (q0 := 6) rfl rfl) rfl rfl hl.1 (Nat.le_of_ble_eq_true rfl) dX1_secondsToCool_2 ⟨Nat.zero_le _, Nat.zero_le _⟩ ?_
  refine lv_istore_n (lv' := [(3, .int q1), (0, .ref gh), (1, .ref (a 6)), (2, .int x2)]) hx hb dX1_secondsToCool_5 rfl hl (by decide) rfl (fun ls hl => ?_)
  refine lv_iload_n hx hb dX1_secondsToCool_6 rfl (lv_at hl 0 rfl) ?_
  refine lv_iconst (v := (1 : Int32)) hx hb dX1_secondsToCool_7 (by decide) ?_
  refine lv_icmp_ge (tgt := 15) hx hb dX1_secondsToCool_8 (by decide) (fun hc2 => ?_) (fun hc2 => ?_)
  · replace hf := it hc2 hf
    refine lv_iload_n hx hb dX1_secondsToCool_15 rfl (lv_at hl 0 rfl) ?_
    refine lv_bipush (v := (10 : Int32)) hx hb dX1_secondsToCool_16 (by decide) ?_
    refine lv_imul hx hb dX1_secondsToCool_18 ?_
    refine lv_aload_n hx hb dX1_secondsToCool_19 rfl (lv_at hl 1 rfl) ?_
    refine va_get hx hb hts n1_ hown hK hP 0 rfl rfl 7 (Nat.le_of_ble_eq_true rfl) k1_ (fun _ h => h) rfl dX1_secondsToCool_20 ?_
    refine lv_bipush (v := (10 : Int32)) hx hb dX1_secondsToCool_23 (by decide) ?_
    refine lv_irem hx hb dX1_secondsToCool_25 (by decide) ?_
    refine lv_isub hx hb dX1_secondsToCool_26 ?_
    obtain rfl := Option.some.inj hf
    exact ret 27 ls _ dX1_secondsToCool_27 rfl rfl
  · replace hf := ie hc2 hf
    refine lv_iconst (v := (0 : Int32)) hx hb dX1_secondsToCool_11 (by decide) ?_
    refine lv_goto (tgt := 27) hx hb dX1_secondsToCool_12 (by decide) ?_
    obtain rfl := Option.some.inj hf
    exact ret 27 ls _ dX1_secondsToCool_27 rfl rfl
noncomputable def f_X1_staleFor (x1 : Int32) (pM : Nat → Int32) (pn : Int32) (d0 : Int32) (w0 : Int32) (d1 : Int32) (w1 : Int32) (qA : Nat → Int32) (qM : Nat → Int32) (qn : Int32) : Option (Int32) := (f_X3_isEmpty 6 pn).bind fun q1 => (if q1 = 0 then (f_X3_firstKind 6 pM pn).bind fun q3 => (if x1 = 0 then (f_X0_gap d0 w0).bind fun q5 => (f_X7_markOf q3 x1 q5).bind fun q6 => (f_X5_amountUpToLastUnlike 106 q6 qA qM qn).bind fun q7 => some q7 else (f_X0_gap d1 w1).bind fun q8 => (f_X7_markOf q3 x1 q8).bind fun q9 => (f_X5_amountUpToLastUnlike 106 q9 qA qM qn).bind fun q10 => some q10) else some (-1000002 : Int32))
abbrev rmX1_staleFor : Room := { frames := 3, cells := 0, slots := 0, locals := 62 }
set_option maxHeartbeats 4000000 in
set_option maxRecDepth 100000 in
theorem c_X1_staleFor (gh : Nat) (a : Nat → Nat) (x1 : Int32) (pA : Nat → Int32) (pM : Nat → Int32) (pn : Int32) (pt : Int32) (d0 : Int32) (w0 : Int32) (g0 : Int32) (k0 : Int32) (d1 : Int32) (w1 : Int32) (g1 : Int32) (k1 : Int32) (qA : Nat → Int32) (qM : Nat → Int32) (qn : Int32) (qt : Int32) (uA : Nat → Int32) (uM : Nat → Int32) (un : Int32) (ut : Int32) (sF : Nat → Int32) (sk : Int32) (sm : Int32) (st : Nat → Int32) (se : Int32) (fi : Int32) (gr : Int32) (br : Int32) (pu : Int32) (nr : Int32) (R : Int32) (hf : f_X1_staleFor x1 pM pn d0 w0 d1 w1 qA qM qn = some R) : RdI l yX1_staleFor wsX1_staleFor rmX1_staleFor D cI cC (w_grinder cI cC gh a pA pM pn pt d0 w0 g0 k0 d1 w1 g1 k1 qA qM qn qt uA uM un ut sF sk sm st se fi gr br pu nr) [.ref gh, .int x1] R := by
  refine en_R (cc := cX1_staleFor) (n := 3) (by decide) rfl (Nat.le_of_ble_eq_true rfl) ?_
  intro p e s m args below meth c Q AA ls hx hb hml hown hts hK hN hP hD hl ret
  have hown : s.vm.findClass RX1 = some m.cls := hown
  have hF : FX p m c cX1_staleFor 3 s args wsX1_staleFor RX1 D cI cC := ⟨⟨hx, hb, hml, hown, hts⟩, hK, hN⟩
  have hl : lv_has ls 3 [(0, .ref gh), (1, .int x1)] := hl
  have k1_ := hts (.fieldLink RX1 12 "DriftGrinders$Grinder" "hopper" "LDriftGrinders$Hopper;") (List.mem_of_getElem? (i := 1) rfl)
  have k2_ := hts (.constant RX1 107 (-1000002)) (List.mem_of_getElem? (i := 2) rfl)
  have k3_ := hts (.fieldLink RX1 33 "DriftGrinders$Grinder" "chute" "LDriftGrinders$Row;") (List.mem_of_getElem? (i := 3) rfl)
  have k43_ := hts (.static yX7_markOf) (List.mem_of_getElem? (i := 43) rfl)
  have k44_ := hts (.initialized RX7) (List.mem_of_getElem? (i := 44) rfl)
  have n1_ : ∀ w ∈ wsX10, w ∈ wsX1_staleFor := fun _ h => List.mem_cons_of_mem _ (List.mem_append_left _ (List.mem_append_left _ (List.mem_append_left _ (List.mem_append_right _ h))))
  rw [f_X1_staleFor] at hf
  refine lv_aload_n hx hb dX1_staleFor_0 rfl (lv_at hl 0 rfl) ?_
  refine va_get hx hb hts n1_ hown hK hP 0 rfl rfl 0 (Nat.le_of_ble_eq_true rfl) k1_ (fun _ h => h) rfl dX1_staleFor_1 ?_
  obtain ⟨q1, hq1, hf⟩ := ob hf
  refine cl_RV (As := []) (rest := []) hF hP hD (c_X3_isEmpty (a 1) (a 2) (a 3) (a 4) 6 pA pM pn pt q1 hq1) (cwV 0 hts gX1_staleFor_X3_isEmpty rfl rfl rfl (by decide +kernel) ⟨(Nat.le_of_ble_eq_true rfl), (Nat.le_of_ble_eq_true rfl)⟩) [1, 2, 3, 4] rfl (by decide) (va_recv hK hP (ci := 3) (q0 := 1) rfl rfl) rfl rfl hl.1 (Nat.le_of_ble_eq_true rfl) dX1_staleFor_4 ⟨Nat.zero_le _, Nat.zero_le _⟩ ?_
  refine lv_if_eq (tgt := 13) hx hb dX1_staleFor_7 (by decide) (fun hc2 => ?_) (fun hc2 => ?_)
  · replace hf := it hc2 hf
    refine lv_aload_n hx hb dX1_staleFor_13 rfl (lv_at hl 0 rfl) ?_
    refine va_get hx hb hts n1_ hown hK hP 0 rfl rfl 0 (Nat.le_of_ble_eq_true rfl) k1_ (fun _ h => h) rfl dX1_staleFor_14 ?_
    obtain ⟨q3, hq3, hf⟩ := ob hf
    refine cl_RV (As := []) (rest := []) hF hP hD (c_X3_firstKind (a 1) (a 2) (a 3) (a 4) 6 pA pM pn pt q3 hq3) (cwV 0 hts gX1_staleFor_X3_firstKind rfl rfl rfl (by decide +kernel) ⟨(Nat.le_of_ble_eq_true rfl), (Nat.le_of_ble_eq_true rfl)⟩) [1, 2, 3, 4] rfl (by decide) (va_recv hK hP (ci := 3) (q0 := 1) rfl rfl) rfl rfl hl.1 (Nat.le_of_ble_eq_true rfl) dX1_staleFor_17 ⟨Nat.zero_le _, Nat.zero_le _⟩ ?_
    refine lv_iload_n hx hb dX1_staleFor_20 rfl (lv_at hl 1 rfl) ?_
    refine lv_aload_n hx hb dX1_staleFor_21 rfl (lv_at hl 0 rfl) ?_
    refine lv_iload_n hx hb dX1_staleFor_22 rfl (lv_at hl 1 rfl) ?_
    by_cases hc4 : x1 = 0
    · replace hf := it hc4 hf
      refine cl_AV (As := [.int x1]) (rest := [.int x1, .int q3]) hF hP hD (c_X1_burrNumbered_0 gh a x1 pA pM pn pt d0 w0 g0 k0 d1 w1 g1 k1 qA qM qn qt uA uM un ut sF sk sm st se fi gr br pu nr hc4) (cwV 1 hts gX1_staleFor_X1_burrNumbered rfl rfl rfl (by decide +kernel) ⟨(Nat.le_of_ble_eq_true rfl), (Nat.le_of_ble_eq_true rfl)⟩) [0, 1, 2, 3, 4, 5, 6, 7, 8, 9, 10, 11, 12, 13, 14, 15] rfl (by decide) (va_recv hK hP (ci := 1) (q0 := 0) rfl rfl) rfl rfl hl.1 (Nat.le_of_ble_eq_true rfl) dX1_staleFor_23 ⟨Nat.zero_le _, Nat.zero_le _⟩ ?_
      obtain ⟨q5, hq5, hf⟩ := ob hf
      refine cl_RV (As := []) (rest := [.int x1, .int q3]) hF hP hD (c_X0_gap (a 5) d0 w0 g0 k0 q5 hq5) (cwV 0 hts gX1_staleFor_X0_gap rfl rfl rfl (by decide +kernel) ⟨(Nat.le_of_ble_eq_true rfl), (Nat.le_of_ble_eq_true rfl)⟩) [5] rfl (by decide) (va_recv hK hP (ci := 0) (q0 := 5) rfl rfl) rfl rfl hl.1 (Nat.le_of_ble_eq_true rfl) dX1_staleFor_26 ⟨Nat.zero_le _, Nat.zero_le _⟩ ?_
      obtain ⟨q6, hq6, hf⟩ := ob hf
      refine cl_RN (As := [.int q3, .int x1, .int q5]) (rest := []) hF hP hD (c_X7_markOf q3 x1 q5 q6 hq6) ⟨va_cnB 3 hts gX1_staleFor_X7_markOf_n224 rfl rfl rfl (hN.nw 32 rfl) k44_ (by decide +kernel) ⟨(Nat.le_of_ble_eq_true rfl), (Nat.le_of_ble_eq_true rfl)⟩, k43_, trivial⟩ [] rfl (by decide) rfl rfl hl.1 (Nat.le_of_ble_eq_true rfl) dX1_staleFor_29 ⟨Nat.zero_le _, Nat.zero_le _⟩ ?_
      refine lv_istore_n (lv' := [(2, .int q6), (0, .ref gh), (1, .int x1)]) hx hb dX1_staleFor_32 rfl hl (by decide) rfl (fun ls hl => ?_)
      refine lv_aload_n hx hb dX1_staleFor_33 rfl (lv_at hl 1 rfl) ?_
      refine va_get hx hb hts n1_ hown hK hP 0 rfl rfl 3 (Nat.le_of_ble_eq_true rfl) k3_ (fun _ h => h) rfl dX1_staleFor_34 ?_
      refine lv_iload_n hx hb dX1_staleFor_37 rfl (lv_at hl 0 rfl) ?_
      obtain ⟨q7, hq7, hf⟩ := ob hf
      refine cl_RV (As := [.int q6]) (rest := []) hF hP hD (c_X5_amountUpToLastUnlike (a 7) (a 8) (a 9) 106 q6 qA qM qn qt q7 hq7) (cwV 1 hts gX1_staleFor_X5_amountUpToLastUnlike rfl rfl rfl (by decide +kernel) ⟨(Nat.le_of_ble_eq_true rfl), (Nat.le_of_ble_eq_true rfl)⟩) [7, 8, 9] rfl (by decide) (va_recv hK hP (ci := 5) (q0 := 7) rfl rfl) rfl rfl hl.1 (Nat.le_of_ble_eq_true rfl) dX1_staleFor_38 ⟨Nat.zero_le _, Nat.zero_le _⟩ ?_
      obtain rfl := Option.some.inj hf
      exact ret 41 ls _ dX1_staleFor_41 rfl rfl
    · replace hf := ie hc4 hf
      refine cl_AV (As := [.int x1]) (rest := [.int x1, .int q3]) hF hP hD (c_X1_burrNumbered_1 gh a x1 pA pM pn pt d0 w0 g0 k0 d1 w1 g1 k1 qA qM qn qt uA uM un ut sF sk sm st se fi gr br pu nr hc4) (cwV 1 hts gX1_staleFor_X1_burrNumbered rfl rfl rfl (by decide +kernel) ⟨(Nat.le_of_ble_eq_true rfl), (Nat.le_of_ble_eq_true rfl)⟩) [0, 1, 2, 3, 4, 5, 6, 7, 8, 9, 10, 11, 12, 13, 14, 15] rfl (by decide) (va_recv hK hP (ci := 1) (q0 := 0) rfl rfl) rfl rfl hl.1 (Nat.le_of_ble_eq_true rfl) dX1_staleFor_23 ⟨Nat.zero_le _, Nat.zero_le _⟩ ?_
      obtain ⟨q8, hq8, hf⟩ := ob hf
      refine cl_RV (As := []) (rest := [.int x1, .int q3]) hF hP hD (c_X0_gap (a 6) d1 w1 g1 k1 q8 hq8) (cwV 0 hts gX1_staleFor_X0_gap rfl rfl rfl (by decide +kernel) ⟨(Nat.le_of_ble_eq_true rfl), (Nat.le_of_ble_eq_true rfl)⟩) [6] rfl (by decide) (va_recv hK hP (ci := 0) (q0 := 6) rfl rfl) rfl rfl hl.1 (Nat.le_of_ble_eq_true rfl) dX1_staleFor_26 ⟨Nat.zero_le _, Nat.zero_le _⟩ ?_
      obtain ⟨q9, hq9, hf⟩ := ob hf
      refine cl_RN (As := [.int q3, .int x1, .int q8]) (rest := []) hF hP hD (c_X7_markOf q3 x1 q8 q9 hq9) ⟨va_cnB 3 hts gX1_staleFor_X7_markOf_n224 rfl rfl rfl (hN.nw 32 rfl) k44_ (by decide +kernel) ⟨(Nat.le_of_ble_eq_true rfl), (Nat.le_of_ble_eq_true rfl)⟩, k43_, trivial⟩ [] rfl (by decide) rfl rfl hl.1 (Nat.le_of_ble_eq_true rfl) dX1_staleFor_29 ⟨Nat.zero_le _, Nat.zero_le _⟩ ?_
      refine lv_istore_n (lv' := [(2, .int q9), (0, .ref gh), (1, .int x1)]) hx hb dX1_staleFor_32 rfl hl (by decide) rfl (fun ls hl => ?_)
      refine lv_aload_n hx hb dX1_staleFor_33 rfl (lv_at hl 1 rfl) ?_
      refine va_get hx hb hts n1_ hown hK hP 0 rfl rfl 3 (Nat.le_of_ble_eq_true rfl) k3_ (fun _ h => h) rfl dX1_staleFor_34 ?_
      refine lv_iload_n hx hb dX1_staleFor_37 rfl (lv_at hl 0 rfl) ?_
      obtain ⟨q10, hq10, hf⟩ := ob hf
      refine cl_RV (As := [.int q9]) (rest := []) hF hP hD (c_X5_amountUpToLastUnlike (a 7) (a 8) (a 9) 106 q9 qA qM qn qt q10 hq10) (cwV 1 hts gX1_staleFor_X5_amountUpToLastUnlike rfl rfl rfl (by decide +kernel) ⟨(Nat.le_of_ble_eq_true rfl), (Nat.le_of_ble_eq_true rfl)⟩) [7, 8, 9] rfl (by decide) (va_recv hK hP (ci := 5) (q0 := 7) rfl rfl) rfl rfl hl.1 (Nat.le_of_ble_eq_true rfl) dX1_staleFor_38 ⟨Nat.zero_le _, Nat.zero_le _⟩ ?_
      obtain rfl := Option.some.inj hf
      exact ret 41 ls _ dX1_staleFor_41 rfl rfl
  · replace hf := ie hc2 hf
    refine lv_ldc hx hb hown k2_ dX1_staleFor_10 ?_
    obtain rfl := Option.some.inj hf
    exact ret 12 ls _ dX1_staleFor_12 rfl rfl
noncomputable def f_X1_copyFrom (pA : Nat → Int32) (pM : Nat → Int32) (pn : Int32) (pt : Int32) (d0 : Int32) (w0 : Int32) (g0 : Int32) (k0 : Int32) (d1 : Int32) (w1 : Int32) (g1 : Int32) (k1 : Int32) (qA : Nat → Int32) (qM : Nat → Int32) (qn : Int32) (qt : Int32) (uA : Nat → Int32) (uM : Nat → Int32) (un : Int32) (ut : Int32) (sF : Nat → Int32) (sk : Int32) (sm : Int32) (st : Nat → Int32) (se : Int32) (fi : Int32) (gr : Int32) (br : Int32) (pu : Int32) (nr : Int32) (opA : Nat → Int32) (opM : Nat → Int32) (opn : Int32) (opt : Int32) (od0 : Int32) (ow0 : Int32) (og0 : Int32) (ok0 : Int32) (od1 : Int32) (ow1 : Int32) (og1 : Int32) (ok1 : Int32) (oqA : Nat → Int32) (oqM : Nat → Int32) (oqn : Int32) (oqt : Int32) (ouA : Nat → Int32) (ouM : Nat → Int32) (oun : Int32) (out : Int32) (osF : Nat → Int32) (osk : Int32) (osm : Int32) (ost : Nat → Int32) (ose : Int32) (ofi : Int32) (ogr : Int32) (obr : Int32) (opu : Int32) (onr : Int32) : Option ((Nat → Int32) × (Nat → Int32) × Int32 × Int32 × Int32 × Int32 × Int32 × Int32 × Int32 × Int32 × Int32 × Int32 × (Nat → Int32) × (Nat → Int32) × Int32 × Int32 × (Nat → Int32) × (Nat → Int32) × Int32 × Int32 × (Nat → Int32) × Int32 × Int32 × (Nat → Int32) × Int32 × Int32 × Int32 × Int32 × Int32 × Int32) := (f_X3_copyFrom 6 6 pA pM pn pt opA opM opn opt).bind fun q1 => (f_X0_copyFrom d0 w0 g0 k0 od0 ow0 og0 ok0).bind fun q2 => (f_X0_copyFrom d1 w1 g1 k1 od1 ow1 og1 ok1).bind fun q3 => (f_X5_copyFrom 106 106 qA qM qn qt oqA oqM oqn oqt).bind fun q4 => (f_X5_copyFrom 400 400 uA uM un ut ouA ouM oun out).bind fun q5 => (f_X6_copyFrom sF sk sm osF osk osm).bind fun q6 => gd (¬ (0 : Int32) < 0 ∧ ¬ (0 : Int32) < 0 ∧ ¬ (6 : Int32) < 0 ∧ (0 : Int32).toNatClampNeg + (6 : Int32).toNatClampNeg ≤ 6 ∧ (0 : Int32).toNatClampNeg + (6 : Int32).toNatClampNeg ≤ 6) (lt (va_cpy ost st (0 : Int32).toNatClampNeg (0 : Int32).toNatClampNeg (6 : Int32).toNatClampNeg) fun Z8 => some (q1.1, q1.2.1, q1.2.2.1, q1.2.2.2, q2.1, q2.2.1, q2.2.2.1, q2.2.2.2, q3.1, q3.2.1, q3.2.2.1, q3.2.2.2, q4.1, q4.2.1, q4.2.2.1, q4.2.2.2, q5.1, q5.2.1, q5.2.2.1, q5.2.2.2, q6.1, q6.2.1, q6.2.2, Z8, ose, ofi, ogr, obr, opu, onr))
abbrev rmX1_copyFrom : Room := { frames := 3, cells := 0, slots := 0, locals := 102 }
set_option maxHeartbeats 4000000 in
set_option maxRecDepth 100000 in
theorem c_X1_copyFrom (gh : Nat) (a : Nat → Nat) (oh : Nat) (o : Nat → Nat) (pA : Nat → Int32) (pM : Nat → Int32) (pn : Int32) (pt : Int32) (d0 : Int32) (w0 : Int32) (g0 : Int32) (k0 : Int32) (d1 : Int32) (w1 : Int32) (g1 : Int32) (k1 : Int32) (qA : Nat → Int32) (qM : Nat → Int32) (qn : Int32) (qt : Int32) (uA : Nat → Int32) (uM : Nat → Int32) (un : Int32) (ut : Int32) (sF : Nat → Int32) (sk : Int32) (sm : Int32) (st : Nat → Int32) (se : Int32) (fi : Int32) (gr : Int32) (br : Int32) (pu : Int32) (nr : Int32) (opA : Nat → Int32) (opM : Nat → Int32) (opn : Int32) (opt : Int32) (od0 : Int32) (ow0 : Int32) (og0 : Int32) (ok0 : Int32) (od1 : Int32) (ow1 : Int32) (og1 : Int32) (ok1 : Int32) (oqA : Nat → Int32) (oqM : Nat → Int32) (oqn : Int32) (oqt : Int32) (ouA : Nat → Int32) (ouM : Nat → Int32) (oun : Int32) (out : Int32) (osF : Nat → Int32) (osk : Int32) (osm : Int32) (ost : Nat → Int32) (ose : Int32) (ofi : Int32) (ogr : Int32) (obr : Int32) (opu : Int32) (onr : Int32) (R : (Nat → Int32) × (Nat → Int32) × Int32 × Int32 × Int32 × Int32 × Int32 × Int32 × Int32 × Int32 × Int32 × Int32 × (Nat → Int32) × (Nat → Int32) × Int32 × Int32 × (Nat → Int32) × (Nat → Int32) × Int32 × Int32 × (Nat → Int32) × Int32 × Int32 × (Nat → Int32) × Int32 × Int32 × Int32 × Int32 × Int32 × Int32) (hf : f_X1_copyFrom pA pM pn pt d0 w0 g0 k0 d1 w1 g1 k1 qA qM qn qt uA uM un ut sF sk sm st se fi gr br pu nr opA opM opn opt od0 ow0 og0 ok0 od1 ow1 og1 ok1 oqA oqM oqn oqt ouA ouM oun out osF osk osm ost ose ofi ogr obr opu onr = some R) : WrV l yX1_copyFrom wsX1_copyFrom rmX1_copyFrom D cI cC (w_grinder2 cI cC gh a oh o pA pM pn pt d0 w0 g0 k0 d1 w1 g1 k1 qA qM qn qt uA uM un ut sF sk sm st se fi gr br pu nr opA opM opn opt od0 ow0 og0 ok0 od1 ow1 og1 ok1 oqA oqM oqn oqt ouA ouM oun out osF osk osm ost ose ofi ogr obr opu onr) (w_grinder2 cI cC gh a oh o R.1 R.2.1 R.2.2.1 R.2.2.2.1 R.2.2.2.2.1 R.2.2.2.2.2.1 R.2.2.2.2.2.2.1 R.2.2.2.2.2.2.2.1 R.2.2.2.2.2.2.2.2.1 R.2.2.2.2.2.2.2.2.2.1 R.2.2.2.2.2.2.2.2.2.2.1 R.2.2.2.2.2.2.2.2.2.2.2.1 R.2.2.2.2.2.2.2.2.2.2.2.2.1 R.2.2.2.2.2.2.2.2.2.2.2.2.2.1 R.2.2.2.2.2.2.2.2.2.2.2.2.2.2.1 R.2.2.2.2.2.2.2.2.2.2.2.2.2.2.2.1 R.2.2.2.2.2.2.2.2.2.2.2.2.2.2.2.2.1 R.2.2.2.2.2.2.2.2.2.2.2.2.2.2.2.2.2.1 R.2.2.2.2.2.2.2.2.2.2.2.2.2.2.2.2.2.2.1 R.2.2.2.2.2.2.2.2.2.2.2.2.2.2.2.2.2.2.2.1 R.2.2.2.2.2.2.2.2.2.2.2.2.2.2.2.2.2.2.2.2.1 R.2.2.2.2.2.2.2.2.2.2.2.2.2.2.2.2.2.2.2.2.2.1 R.2.2.2.2.2.2.2.2.2.2.2.2.2.2.2.2.2.2.2.2.2.2.1 R.2.2.2.2.2.2.2.2.2.2.2.2.2.2.2.2.2.2.2.2.2.2.2.1 R.2.2.2.2.2.2.2.2.2.2.2.2.2.2.2.2.2.2.2.2.2.2.2.2.1 R.2.2.2.2.2.2.2.2.2.2.2.2.2.2.2.2.2.2.2.2.2.2.2.2.2.1 R.2.2.2.2.2.2.2.2.2.2.2.2.2.2.2.2.2.2.2.2.2.2.2.2.2.2.1 R.2.2.2.2.2.2.2.2.2.2.2.2.2.2.2.2.2.2.2.2.2.2.2.2.2.2.2.1 R.2.2.2.2.2.2.2.2.2.2.2.2.2.2.2.2.2.2.2.2.2.2.2.2.2.2.2.2.1 R.2.2.2.2.2.2.2.2.2.2.2.2.2.2.2.2.2.2.2.2.2.2.2.2.2.2.2.2.2 opA opM opn opt od0 ow0 og0 ok0 od1 ow1 og1 ok1 oqA oqM oqn oqt ouA ouM oun out osF osk osm ost ose ofi ogr obr opu onr) [.ref gh, .ref oh] := by
  refine en_V (cc := cX1_copyFrom) (n := 2) (by decide) rfl (Nat.le_of_ble_eq_true rfl) ?_
  intro p e s m args below meth c Q AA ls hx hb hml hown hts hK hN hP hD hS hl ret
  have hown : s.vm.findClass RX1 = some m.cls := hown
  have hF : FX p m c cX1_copyFrom 2 s args wsX1_copyFrom RX1 D cI cC := ⟨⟨hx, hb, hml, hown, hts⟩, hK, hN⟩
  have hl : lv_has ls 2 [(0, .ref gh), (1, .ref oh)] := hl
  have k10_ := hts (.static arraycopyName) (List.mem_of_getElem? (i := 10) rfl)
  have k11_ := hts (.initialized "java/lang/System") (List.mem_of_getElem? (i := 11) rfl)
  have k12_ := hts (.fieldLink RX1 70 "DriftGrinders$Grinder" "second" "I") (List.mem_of_getElem? (i := 12) rfl)
  have k13_ := hts (.fieldLink RX1 74 "DriftGrinders$Grinder" "filled" "I") (List.mem_of_getElem? (i := 13) rfl)
  have k14_ := hts (.fieldLink RX1 77 "DriftGrinders$Grinder" "ground" "I") (List.mem_of_getElem? (i := 14) rfl)
  have k15_ := hts (.fieldLink RX1 80 "DriftGrinders$Grinder" "brewed" "I") (List.mem_of_getElem? (i := 15) rfl)
  have k16_ := hts (.fieldLink RX1 83 "DriftGrinders$Grinder" "purged" "I") (List.mem_of_getElem? (i := 16) rfl)
  have k17_ := hts (.fieldLink RX1 86 "DriftGrinders$Grinder" "shotsNearTarget" "I") (List.mem_of_getElem? (i := 17) rfl)
  have k1_ := hts (.fieldLink RX1 12 "DriftGrinders$Grinder" "hopper" "LDriftGrinders$Hopper;") (List.mem_of_getElem? (i := 1) rfl)
  have k2_ := hts (.fieldLink RX1 21 "DriftGrinders$Grinder" "burr0" "LDriftGrinders$Burr;") (List.mem_of_getElem? (i := 2) rfl)
  have k3_ := hts (.fieldLink RX1 25 "DriftGrinders$Grinder" "burr1" "LDriftGrinders$Burr;") (List.mem_of_getElem? (i := 3) rfl)
  have k4_ := hts (.fieldLink RX1 33 "DriftGrinders$Grinder" "chute" "LDriftGrinders$Row;") (List.mem_of_getElem? (i := 4) rfl)
  have k5_ := hts (.fieldLink RX1 37 "DriftGrinders$Grinder" "basket" "LDriftGrinders$Row;") (List.mem_of_getElem? (i := 5) rfl)
  have k6_ := hts (.fieldLink RX1 43 "DriftGrinders$Grinder" "shots" "LDriftGrinders$Shots;") (List.mem_of_getElem? (i := 6) rfl)
  have k7_ := hts (.fieldLink RX1 47 "DriftGrinders$Grinder" "settings" "[I") (List.mem_of_getElem? (i := 7) rfl)
  have k8_ := hts (.methodLink RX1 64 arraycopyName) (List.mem_of_getElem? (i := 8) rfl)
  have k9_ := hts (.native arraycopyName) (List.mem_of_getElem? (i := 9) rfl)
  have n1_ : ∀ w ∈ wsX10, w ∈ wsX1_copyFrom := fun _ h => List.mem_cons_of_mem _ (List.mem_append_left _ (List.mem_append_left _ (List.mem_append_left _ (List.mem_append_left _ (List.mem_append_right _ h)))))
  rw [f_X1_copyFrom] at hf
  obtain ⟨H, hH⟩ : ∃ z : Heap, z = s.heap := ⟨_, rfl⟩
  obtain ⟨locs, hL⟩ : ∃ z : List Loc, z = [] := ⟨_, rfl⟩
  replace hP := hH ▸ hP
  replace hS : va_S AA s.heap H locs := by rw [hH, hL]; exact hS
  suffices hgoal : W p l e rmX1_copyFrom s m args below meth c H locs 0 0 Q (F0 m 0 ls []) by rw [hH, hL] at hgoal; exact hgoal
  clear hH hL
  refine lv_aload_n hx hb dX1_copyFrom_0 rfl (lv_at hl 0 rfl) ?_
  refine va_get hx hb hts n1_ hown hK hP 0 rfl rfl 0 (Nat.le_of_ble_eq_true rfl) k1_ (fun _ h => h) rfl dX1_copyFrom_1 ?_
  refine lv_aload_n hx hb dX1_copyFrom_4 rfl (lv_at hl 1 rfl) ?_
  refine va_get hx hb hts n1_ hown hK hP 16 rfl rfl 0 (Nat.le_of_ble_eq_true rfl) k1_ (fun _ h => h) rfl dX1_copyFrom_5 ?_
  obtain ⟨q1, hq1, hf⟩ := ob hf
  refine cl_VV (As := [.ref (o 1)]) (rest := []) hF hP hD hS (c_X3_copyFrom (a 1) (a 2) (a 3) (a 4) (o 1) (o 2) (o 3) (o 4) 6 6 pA pM pn pt opA opM opn opt q1 hq1) (cwV 1 hts gX1_copyFrom_X3_copyFrom rfl rfl rfl (by decide +kernel) ⟨(Nat.le_of_ble_eq_true rfl), (Nat.le_of_ble_eq_true rfl)⟩) [1, 2, 3, 4, 17, 18, 19, 20] rfl (by decide) (va_recv hK hP (ci := 3) (q0 := 1) rfl rfl) rfl rfl hl.1 (Nat.le_of_ble_eq_true rfl) dX1_copyFrom_8 ⟨Nat.zero_le _, Nat.zero_le _⟩ (hA2 [(a 1), (a 2), (a 3), (a 4), (o 1), (o 2), (o 3), (o 4)] rfl rfl) (fun H locs hP hD hS => ?_)
  have hP : va_P D vwCl (w_grinder2 cI cC gh a oh o q1.1 q1.2.1 q1.2.2.1 q1.2.2.2 d0 w0 g0 k0 d1 w1 g1 k1 qA qM qn qt uA uM un ut sF sk sm st se fi gr br pu nr opA opM opn opt od0 ow0 og0 ok0 od1 ow1 og1 ok1 oqA oqM oqn oqt ouA ouM oun out osF osk osm ost ose ofi ogr obr opu onr) H := hP
  have hD : va_D AA (w_grinder2 cI cC gh a oh o q1.1 q1.2.1 q1.2.2.1 q1.2.2.2 d0 w0 g0 k0 d1 w1 g1 k1 qA qM qn qt uA uM un ut sF sk sm st se fi gr br pu nr opA opM opn opt od0 ow0 og0 ok0 od1 ow1 og1 ok1 oqA oqM oqn oqt ouA ouM oun out osF osk osm ost ose ofi ogr obr opu onr) := hD
  refine lv_aload_n hx hb dX1_copyFrom_11 rfl (lv_at hl 0 rfl) ?_
  refine va_get hx hb hts n1_ hown hK hP 0 rfl rfl 1 (Nat.le_of_ble_eq_true rfl) k2_ (fun _ h => h) rfl dX1_copyFrom_12 ?_
  refine lv_aload_n hx hb dX1_copyFrom_15 rfl (lv_at hl 1 rfl) ?_
  refine va_get hx hb hts n1_ hown hK hP 16 rfl rfl 1 (Nat.le_of_ble_eq_true rfl) k2_ (fun _ h => h) rfl dX1_copyFrom_16 ?_
  obtain ⟨q2, hq2, hf⟩ := ob hf
  refine cl_VV (As := [.ref (o 5)]) (rest := []) hF hP hD hS (c_X0_copyFrom (a 5) (o 5) d0 w0 g0 k0 od0 ow0 og0 ok0 q2 hq2) (cwV 1 hts gX1_copyFrom_X0_copyFrom rfl rfl rfl (by decide +kernel) ⟨(Nat.le_of_ble_eq_true rfl), (Nat.le_of_ble_eq_true rfl)⟩) [5, 21] rfl (by decide) (va_recv hK hP (ci := 0) (q0 := 5) rfl rfl) rfl rfl hl.1 (Nat.le_of_ble_eq_true rfl) dX1_copyFrom_19 ⟨Nat.zero_le _, Nat.zero_le _⟩ (hA2 [(a 5), (o 5)] rfl rfl) (fun H locs hP hD hS => ?_)
  have hP : va_P D vwCl (w_grinder2 cI cC gh a oh o q1.1 q1.2.1 q1.2.2.1 q1.2.2.2 q2.1 q2.2.1 q2.2.2.1 q2.2.2.2 d1 w1 g1 k1 qA qM qn qt uA uM un ut sF sk sm st se fi gr br pu nr opA opM opn opt od0 ow0 og0 ok0 od1 ow1 og1 ok1 oqA oqM oqn oqt ouA ouM oun out osF osk osm ost ose ofi ogr obr opu onr) H := hP
  have hD : va_D AA (w_grinder2 cI cC gh a oh o q1.1 q1.2.1 q1.2.2.1 q1.2.2.2 q2.1 q2.2.1 q2.2.2.1 q2.2.2.2 d1 w1 g1 k1 qA qM qn qt uA uM un ut sF sk sm st se fi gr br pu nr opA opM opn opt od0 ow0 og0 ok0 od1 ow1 og1 ok1 oqA oqM oqn oqt ouA ouM oun out osF osk osm ost ose ofi ogr obr opu onr) := hD
  refine lv_aload_n hx hb dX1_copyFrom_22 rfl (lv_at hl 0 rfl) ?_
  refine va_get hx hb hts n1_ hown hK hP 0 rfl rfl 2 (Nat.le_of_ble_eq_true rfl) k3_ (fun _ h => h) rfl dX1_copyFrom_23 ?_
  refine lv_aload_n hx hb dX1_copyFrom_26 rfl (lv_at hl 1 rfl) ?_
  refine va_get hx hb hts n1_ hown hK hP 16 rfl rfl 2 (Nat.le_of_ble_eq_true rfl) k3_ (fun _ h => h) rfl dX1_copyFrom_27 ?_
  obtain ⟨q3, hq3, hf⟩ := ob hf
  refine cl_VV (As := [.ref (o 6)]) (rest := []) hF hP hD hS (c_X0_copyFrom (a 6) (o 6) d1 w1 g1 k1 od1 ow1 og1 ok1 q3 hq3) (cwV 1 hts gX1_copyFrom_X0_copyFrom rfl rfl rfl (by decide +kernel) ⟨(Nat.le_of_ble_eq_true rfl), (Nat.le_of_ble_eq_true rfl)⟩) [6, 22] rfl (by decide) (va_recv hK hP (ci := 0) (q0 := 6) rfl rfl) rfl rfl hl.1 (Nat.le_of_ble_eq_true rfl) dX1_copyFrom_30 ⟨Nat.zero_le _, Nat.zero_le _⟩ (hA2 [(a 6), (o 6)] rfl rfl) (fun H locs hP hD hS => ?_)
  have hP : va_P D vwCl (w_grinder2 cI cC gh a oh o q1.1 q1.2.1 q1.2.2.1 q1.2.2.2 q2.1 q2.2.1 q2.2.2.1 q2.2.2.2 q3.1 q3.2.1 q3.2.2.1 q3.2.2.2 qA qM qn qt uA uM un ut sF sk sm st se fi gr br pu nr opA opM opn opt od0 ow0 og0 ok0 od1 ow1 og1 ok1 oqA oqM oqn oqt ouA ouM oun out osF osk osm ost ose ofi ogr obr opu onr) H := hP
  have hD : va_D AA (w_grinder2 cI cC gh a oh o q1.1 q1.2.1 q1.2.2.1 q1.2.2.2 q2.1 q2.2.1 q2.2.2.1 q2.2.2.2 q3.1 q3.2.1 q3.2.2.1 q3.2.2.2 qA qM qn qt uA uM un ut sF sk sm st se fi gr br pu nr opA opM opn opt od0 ow0 og0 ok0 od1 ow1 og1 ok1 oqA oqM oqn oqt ouA ouM oun out osF osk osm ost ose ofi ogr obr opu onr) := hD
  refine lv_aload_n hx hb dX1_copyFrom_33 rfl (lv_at hl 0 rfl) ?_
  refine va_get hx hb hts n1_ hown hK hP 0 rfl rfl 3 (Nat.le_of_ble_eq_true rfl) k4_ (fun _ h => h) rfl dX1_copyFrom_34 ?_
  refine lv_aload_n hx hb dX1_copyFrom_37 rfl (lv_at hl 1 rfl) ?_
  refine va_get hx hb hts n1_ hown hK hP 16 rfl rfl 3 (Nat.le_of_ble_eq_true rfl) k4_ (fun _ h => h) rfl dX1_copyFrom_38 ?_
  obtain ⟨q4, hq4, hf⟩ := ob hf
  refine cl_VV (As := [.ref (o 7)]) (rest := []) hF hP hD hS (c_X5_copyFrom (a 7) (a 8) (a 9) (o 7) (o 8) (o 9) 106 106 qA qM qn qt oqA oqM oqn oqt q4 hq4) (cwV 1 hts gX1_copyFrom_X5_copyFrom rfl rfl rfl (by decide +kernel) ⟨(Nat.le_of_ble_eq_true rfl), (Nat.le_of_ble_eq_true rfl)⟩) [7, 8, 9, 23, 24, 25] rfl (by decide) (va_recv hK hP (ci := 5) (q0 := 7) rfl rfl) rfl rfl hl.1 (Nat.le_of_ble_eq_true rfl) dX1_copyFrom_41 ⟨Nat.zero_le _, Nat.zero_le _⟩ (hA2 [(a 7), (a 8), (a 9), (o 7), (o 8), (o 9)] rfl rfl) (fun H locs hP hD hS => ?_)
  have hP : va_P D vwCl (w_grinder2 cI cC gh a oh o q1.1 q1.2.1 q1.2.2.1 q1.2.2.2 q2.1 q2.2.1 q2.2.2.1 q2.2.2.2 q3.1 q3.2.1 q3.2.2.1 q3.2.2.2 q4.1 q4.2.1 q4.2.2.1 q4.2.2.2 uA uM un ut sF sk sm st se fi gr br pu nr opA opM opn opt od0 ow0 og0 ok0 od1 ow1 og1 ok1 oqA oqM oqn oqt ouA ouM oun out osF osk osm ost ose ofi ogr obr opu onr) H := hP
  have hD : va_D AA (w_grinder2 cI cC gh a oh o q1.1 q1.2.1 q1.2.2.1 q1.2.2.2 q2.1 q2.2.1 q2.2.2.1 q2.2.2.2 q3.1 q3.2.1 q3.2.2.1 q3.2.2.2 q4.1 q4.2.1 q4.2.2.1 q4.2.2.2 uA uM un ut sF sk sm st se fi gr br pu nr opA opM opn opt od0 ow0 og0 ok0 od1 ow1 og1 ok1 oqA oqM oqn oqt ouA ouM oun out osF osk osm ost ose ofi ogr obr opu onr) := hD
  refine lv_aload_n hx hb dX1_copyFrom_44 rfl (lv_at hl 0 rfl) ?_
  refine va_get hx hb hts n1_ hown hK hP 0 rfl rfl 4 (Nat.le_of_ble_eq_true rfl) k5_ (fun _ h => h) rfl dX1_copyFrom_45 ?_
  refine lv_aload_n hx hb dX1_copyFrom_48 rfl (lv_at hl 1 rfl) ?_
  refine va_get hx hb hts n1_ hown hK hP 16 rfl rfl 4 (Nat.le_of_ble_eq_true rfl) k5_ (fun _ h => h) rfl dX1_copyFrom_49 ?_
  obtain ⟨q5, hq5, hf⟩ := ob hf
  refine cl_VV (As := [.ref (o 10)]) (rest := []) hF hP hD hS (c_X5_copyFrom (a 10) (a 11) (a 12) (o 10) (o 11) (o 12) 400 400 uA uM un ut ouA ouM oun out q5 hq5) (cwV 1 hts gX1_copyFrom_X5_copyFrom rfl rfl rfl (by decide +kernel) ⟨(Nat.le_of_ble_eq_true rfl), (Nat.le_of_ble_eq_true rfl)⟩) [10, 11, 12, 26, 27, 28] rfl (by decide) (va_recv hK hP (ci := 5) (q0 := 10) rfl rfl) rfl rfl hl.1 (Nat.le_of_ble_eq_true rfl) dX1_copyFrom_52 ⟨Nat.zero_le _, Nat.zero_le _⟩ (hA2 [(a 10), (a 11), (a 12), (o 10), (o 11), (o 12)] rfl rfl) (fun H locs hP hD hS => ?_)
  have hP : va_P D vwCl (w_grinder2 cI cC gh a oh o q1.1 q1.2.1 q1.2.2.1 q1.2.2.2 q2.1 q2.2.1 q2.2.2.1 q2.2.2.2 q3.1 q3.2.1 q3.2.2.1 q3.2.2.2 q4.1 q4.2.1 q4.2.2.1 q4.2.2.2 q5.1 q5.2.1 q5.2.2.1 q5.2.2.2 sF sk sm st se fi gr br pu nr opA opM opn opt od0 ow0 og0 ok0 od1 ow1 og1 ok1 oqA oqM oqn oqt ouA ouM oun out osF osk osm ost ose ofi ogr obr opu onr) H := hP
  have hD : va_D AA (w_grinder2 cI cC gh a oh o q1.1 q1.2.1 q1.2.2.1 q1.2.2.2 q2.1 q2.2.1 q2.2.2.1 q2.2.2.2 q3.1 q3.2.1 q3.2.2.1 q3.2.2.2 q4.1 q4.2.1 q4.2.2.1 q4.2.2.2 q5.1 q5.2.1 q5.2.2.1 q5.2.2.2 sF sk sm st se fi gr br pu nr opA opM opn opt od0 ow0 og0 ok0 od1 ow1 og1 ok1 oqA oqM oqn oqt ouA ouM oun out osF osk osm ost ose ofi ogr obr opu onr) := hD
  refine lv_aload_n hx hb dX1_copyFrom_55 rfl (lv_at hl 0 rfl) ?_
  refine va_get hx hb hts n1_ hown hK hP 0 rfl rfl 5 (Nat.le_of_ble_eq_true rfl) k6_ (fun _ h => h) rfl dX1_copyFrom_56 ?_
  refine lv_aload_n hx hb dX1_copyFrom_59 rfl (lv_at hl 1 rfl) ?_
  refine va_get hx hb hts n1_ hown hK hP 16 rfl rfl 5 (Nat.le_of_ble_eq_true rfl) k6_ (fun _ h => h) rfl dX1_copyFrom_60 ?_
  obtain ⟨q6, hq6, hf⟩ := ob hf
  refine cl_VV (As := [.ref (o 13)]) (rest := []) hF hP hD hS (c_X6_copyFrom (a 13) (a 14) (o 13) (o 14) sF sk sm osF osk osm q6 hq6) (cwV 1 hts gX1_copyFrom_X6_copyFrom rfl rfl rfl (by decide +kernel) ⟨(Nat.le_of_ble_eq_true rfl), (Nat.le_of_ble_eq_true rfl)⟩) [13, 14, 29, 30] rfl (by decide) (va_recv hK hP (ci := 6) (q0 := 13) rfl rfl) rfl rfl hl.1 (Nat.le_of_ble_eq_true rfl) dX1_copyFrom_63 ⟨Nat.zero_le _, Nat.zero_le _⟩ (hA2 [(a 13), (a 14), (o 13), (o 14)] rfl rfl) (fun H locs hP hD hS => ?_)
  have hP : va_P D vwCl (w_grinder2 cI cC gh a oh o q1.1 q1.2.1 q1.2.2.1 q1.2.2.2 q2.1 q2.2.1 q2.2.2.1 q2.2.2.2 q3.1 q3.2.1 q3.2.2.1 q3.2.2.2 q4.1 q4.2.1 q4.2.2.1 q4.2.2.2 q5.1 q5.2.1 q5.2.2.1 q5.2.2.2 q6.1 q6.2.1 q6.2.2 st se fi gr br pu nr opA opM opn opt od0 ow0 og0 ok0 od1 ow1 og1 ok1 oqA oqM oqn oqt ouA ouM oun out osF osk osm ost ose ofi ogr obr opu onr) H := hP
  have hD : va_D AA (w_grinder2 cI cC gh a oh o q1.1 q1.2.1 q1.2.2.1 q1.2.2.2 q2.1 q2.2.1 q2.2.2.1 q2.2.2.2 q3.1 q3.2.1 q3.2.2.1 q3.2.2.2 q4.1 q4.2.1 q4.2.2.1 q4.2.2.2 q5.1 q5.2.1 q5.2.2.1 q5.2.2.2 q6.1 q6.2.1 q6.2.2 st se fi gr br pu nr opA opM opn opt od0 ow0 og0 ok0 od1 ow1 og1 ok1 oqA oqM oqn oqt ouA ouM oun out osF osk osm ost ose ofi ogr obr opu onr) := hD
  refine lv_aload_n hx hb dX1_copyFrom_66 rfl (lv_at hl 1 rfl) ?_
  refine va_get hx hb hts n1_ hown hK hP 16 rfl rfl 6 (Nat.le_of_ble_eq_true rfl) k7_ (fun _ h => h) rfl dX1_copyFrom_67 ?_
  refine lv_iconst (v := (0 : Int32)) hx hb dX1_copyFrom_70 (by decide) ?_
  refine lv_aload_n hx hb dX1_copyFrom_71 rfl (lv_at hl 0 rfl) ?_
  refine va_get hx hb hts n1_ hown hK hP 0 rfl rfl 6 (Nat.le_of_ble_eq_true rfl) k7_ (fun _ h => h) rfl dX1_copyFrom_72 ?_
  refine lv_iconst (v := (0 : Int32)) hx hb dX1_copyFrom_75 (by decide) ?_
  refine lv_aload_n hx hb dX1_copyFrom_76 rfl (lv_at hl 0 rfl) ?_
  refine va_get hx hb hts n1_ hown hK hP 0 rfl rfl 6 (Nat.le_of_ble_eq_true rfl) k7_ (fun _ h => h) rfl dX1_copyFrom_77 ?_
  refine va_alen hx hb hK hP 15 0 rfl rfl (v := (6 : Int32)) rfl dX1_copyFrom_80 ?_
  obtain ⟨hg7, hf⟩ := gd_s hf
  refine x_copy hx hb (hml.trans hl.1.symm) hown k8_ k9_ k10_ k11_ hK hP hD hS 31 15 0 0 rfl rfl rfl rfl rfl hg7.1 hg7.2.1 hg7.2.2.1 hg7.2.2.2.1 hg7.2.2.2.2 (fun _ _ => rfl) (Nat.le_of_ble_eq_true rfl) (Nat.le_of_ble_eq_true rfl) dX1_copyFrom_81 (fun Z8 H locs eZ8 hP hD hS => ?_)
  replace hf := lt_e eZ8 hf
  have hP : va_P D vwCl (w_grinder2 cI cC gh a oh o q1.1 q1.2.1 q1.2.2.1 q1.2.2.2 q2.1 q2.2.1 q2.2.2.1 q2.2.2.2 q3.1 q3.2.1 q3.2.2.1 q3.2.2.2 q4.1 q4.2.1 q4.2.2.1 q4.2.2.2 q5.1 q5.2.1 q5.2.2.1 q5.2.2.2 q6.1 q6.2.1 q6.2.2 Z8 se fi gr br pu nr opA opM opn opt od0 ow0 og0 ok0 od1 ow1 og1 ok1 oqA oqM oqn oqt ouA ouM oun out osF osk osm ost ose ofi ogr obr opu onr) H := hP
  have hD : va_D AA (w_grinder2 cI cC gh a oh o q1.1 q1.2.1 q1.2.2.1 q1.2.2.2 q2.1 q2.2.1 q2.2.2.1 q2.2.2.2 q3.1 q3.2.1 q3.2.2.1 q3.2.2.2 q4.1 q4.2.1 q4.2.2.1 q4.2.2.2 q5.1 q5.2.1 q5.2.2.1 q5.2.2.2 q6.1 q6.2.1 q6.2.2 Z8 se fi gr br pu nr opA opM opn opt od0 ow0 og0 ok0 od1 ow1 og1 ok1 oqA oqM oqn oqt ouA ouM oun out osF osk osm ost ose ofi ogr obr opu onr) := hD
  refine lv_aload_n hx hb dX1_copyFrom_84 rfl (lv_at hl 0 rfl) ?_
  refine lv_aload_n hx hb dX1_copyFrom_85 rfl (lv_at hl 1 rfl) ?_
  refine va_get hx hb hts n1_ hown hK hP 16 rfl rfl 7 (Nat.le_of_ble_eq_true rfl) k12_ (fun _ h => h) rfl dX1_copyFrom_86 ?_
  refine va_put hx hb hts n1_ tyX1 tyX1_ok nmX1 hown hK hP hD hS 0 rfl rfl 7 (Nat.le_of_ble_eq_true rfl) k12_ (fun _ h => h) rfl (v := .int ose) (tyX1_ok 7 (Nat.le_of_ble_eq_true rfl)) rfl rfl (Nat.le_of_ble_eq_true rfl) dX1_copyFrom_89 (fun H locs hP hD hS => ?_)
  have hP : va_P D vwCl (w_grinder2 cI cC gh a oh o q1.1 q1.2.1 q1.2.2.1 q1.2.2.2 q2.1 q2.2.1 q2.2.2.1 q2.2.2.2 q3.1 q3.2.1 q3.2.2.1 q3.2.2.2 q4.1 q4.2.1 q4.2.2.1 q4.2.2.2 q5.1 q5.2.1 q5.2.2.1 q5.2.2.2 q6.1 q6.2.1 q6.2.2 Z8 ose fi gr br pu nr opA opM opn opt od0 ow0 og0 ok0 od1 ow1 og1 ok1 oqA oqM oqn oqt ouA ouM oun out osF osk osm ost ose ofi ogr obr opu onr) H := hP
  have hD : va_D AA (w_grinder2 cI cC gh a oh o q1.1 q1.2.1 q1.2.2.1 q1.2.2.2 q2.1 q2.2.1 q2.2.2.1 q2.2.2.2 q3.1 q3.2.1 q3.2.2.1 q3.2.2.2 q4.1 q4.2.1 q4.2.2.1 q4.2.2.2 q5.1 q5.2.1 q5.2.2.1 q5.2.2.2 q6.1 q6.2.1 q6.2.2 Z8 ose fi gr br pu nr opA opM opn opt od0 ow0 og0 ok0 od1 ow1 og1 ok1 oqA oqM oqn oqt ouA ouM oun out osF osk osm ost ose ofi ogr obr opu onr) := hD
  refine lv_aload_n hx hb dX1_copyFrom_92 rfl (lv_at hl 0 rfl) ?_
  refine lv_aload_n hx hb dX1_copyFrom_93 rfl (lv_at hl 1 rfl) ?_
  refine va_get hx hb hts n1_ hown hK hP 16 rfl rfl 8 (Nat.le_of_ble_eq_true rfl) k13_ (fun _ h => h) rfl dX1_copyFrom_94 ?_
  refine va_put hx hb hts n1_ tyX1 tyX1_ok nmX1 hown hK hP hD hS 0 rfl rfl 8 (Nat.le_of_ble_eq_true rfl) k13_ (fun _ h => h) rfl (v := .int ofi) (tyX1_ok 8 (Nat.le_of_ble_eq_true rfl)) rfl rfl (Nat.le_of_ble_eq_true rfl) dX1_copyFrom_97 (fun H locs hP hD hS => ?_)
  have hP : va_P D vwCl (w_grinder2 cI cC gh a oh o q1.1 q1.2.1 q1.2.2.1 q1.2.2.2 q2.1 q2.2.1 q2.2.2.1 q2.2.2.2 q3.1 q3.2.1 q3.2.2.1 q3.2.2.2 q4.1 q4.2.1 q4.2.2.1 q4.2.2.2 q5.1 q5.2.1 q5.2.2.1 q5.2.2.2 q6.1 q6.2.1 q6.2.2 Z8 ose ofi gr br pu nr opA opM opn opt od0 ow0 og0 ok0 od1 ow1 og1 ok1 oqA oqM oqn oqt ouA ouM oun out osF osk osm ost ose ofi ogr obr opu onr) H := hP
  have hD : va_D AA (w_grinder2 cI cC gh a oh o q1.1 q1.2.1 q1.2.2.1 q1.2.2.2 q2.1 q2.2.1 q2.2.2.1 q2.2.2.2 q3.1 q3.2.1 q3.2.2.1 q3.2.2.2 q4.1 q4.2.1 q4.2.2.1 q4.2.2.2 q5.1 q5.2.1 q5.2.2.1 q5.2.2.2 q6.1 q6.2.1 q6.2.2 Z8 ose ofi gr br pu nr opA opM opn opt od0 ow0 og0 ok0 od1 ow1 og1 ok1 oqA oqM oqn oqt ouA ouM oun out osF osk osm ost ose ofi ogr obr opu onr) := hD
  refine lv_aload_n hx hb dX1_copyFrom_100 rfl (lv_at hl 0 rfl) ?_
  refine lv_aload_n hx hb dX1_copyFrom_101 rfl (lv_at hl 1 rfl) ?_
  refine va_get hx hb hts n1_ hown hK hP 16 rfl rfl 9 (Nat.le_of_ble_eq_true rfl) k14_ (fun _ h => h) rfl dX1_copyFrom_102 ?_
  refine va_put hx hb hts n1_ tyX1 tyX1_ok nmX1 hown hK hP hD hS 0 rfl rfl 9 (Nat.le_of_ble_eq_true rfl) k14_ (fun _ h => h) rfl (v := .int ogr) (tyX1_ok 9 (Nat.le_of_ble_eq_true rfl)) rfl rfl (Nat.le_of_ble_eq_true rfl) dX1_copyFrom_105 (fun H locs hP hD hS => ?_)
  have hP : va_P D vwCl (w_grinder2 cI cC gh a oh o q1.1 q1.2.1 q1.2.2.1 q1.2.2.2 q2.1 q2.2.1 q2.2.2.1 q2.2.2.2 q3.1 q3.2.1 q3.2.2.1 q3.2.2.2 q4.1 q4.2.1 q4.2.2.1 q4.2.2.2 q5.1 q5.2.1 q5.2.2.1 q5.2.2.2 q6.1 q6.2.1 q6.2.2 Z8 ose ofi ogr br pu nr opA opM opn opt od0 ow0 og0 ok0 od1 ow1 og1 ok1 oqA oqM oqn oqt ouA ouM oun out osF osk osm ost ose ofi ogr obr opu onr) H := hP
  have hD : va_D AA (w_grinder2 cI cC gh a oh o q1.1 q1.2.1 q1.2.2.1 q1.2.2.2 q2.1 q2.2.1 q2.2.2.1 q2.2.2.2 q3.1 q3.2.1 q3.2.2.1 q3.2.2.2 q4.1 q4.2.1 q4.2.2.1 q4.2.2.2 q5.1 q5.2.1 q5.2.2.1 q5.2.2.2 q6.1 q6.2.1 q6.2.2 Z8 ose ofi ogr br pu nr opA opM opn opt od0 ow0 og0 ok0 od1 ow1 og1 ok1 oqA oqM oqn oqt ouA ouM oun out osF osk osm ost ose ofi ogr obr opu onr) := hD
  refine lv_aload_n hx hb dX1_copyFrom_108 rfl (lv_at hl 0 rfl) ?_
  refine lv_aload_n hx hb dX1_copyFrom_109 rfl (lv_at hl 1 rfl) ?_
  refine va_get hx hb hts n1_ hown hK hP 16 rfl rfl 10 (Nat.le_of_ble_eq_true rfl) k15_ (fun _ h => h) rfl dX1_copyFrom_110 ?_
  refine va_put hx hb hts n1_ tyX1 tyX1_ok nmX1 hown hK hP hD hS 0 rfl rfl 10 (Nat.le_of_ble_eq_true rfl) k15_ (fun _ h => h) rfl (v := .int obr) (tyX1_ok 10 (Nat.le_of_ble_eq_true rfl)) rfl rfl (Nat.le_of_ble_eq_true rfl) dX1_copyFrom_113 (fun H locs hP hD hS => ?_)
  have hP : va_P D vwCl (w_grinder2 cI cC gh a oh o q1.1 q1.2.1 q1.2.2.1 q1.2.2.2 q2.1 q2.2.1 q2.2.2.1 q2.2.2.2 q3.1 q3.2.1 q3.2.2.1 q3.2.2.2 q4.1 q4.2.1 q4.2.2.1 q4.2.2.2 q5.1 q5.2.1 q5.2.2.1 q5.2.2.2 q6.1 q6.2.1 q6.2.2 Z8 ose ofi ogr obr pu nr opA opM opn opt od0 ow0 og0 ok0 od1 ow1 og1 ok1 oqA oqM oqn oqt ouA ouM oun out osF osk osm ost ose ofi ogr obr opu onr) H := hP
  have hD : va_D AA (w_grinder2 cI cC gh a oh o q1.1 q1.2.1 q1.2.2.1 q1.2.2.2 q2.1 q2.2.1 q2.2.2.1 q2.2.2.2 q3.1 q3.2.1 q3.2.2.1 q3.2.2.2 q4.1 q4.2.1 q4.2.2.1 q4.2.2.2 q5.1 q5.2.1 q5.2.2.1 q5.2.2.2 q6.1 q6.2.1 q6.2.2 Z8 ose ofi ogr obr pu nr opA opM opn opt od0 ow0 og0 ok0 od1 ow1 og1 ok1 oqA oqM oqn oqt ouA ouM oun out osF osk osm ost ose ofi ogr obr opu onr) := hD
  refine lv_aload_n hx hb dX1_copyFrom_116 rfl (lv_at hl 0 rfl) ?_
  refine lv_aload_n hx hb dX1_copyFrom_117 rfl (lv_at hl 1 rfl) ?_
  refine va_get hx hb hts n1_ hown hK hP 16 rfl rfl 11 (Nat.le_of_ble_eq_true rfl) k16_ (fun _ h => h) rfl dX1_copyFrom_118 ?_
  refine va_put hx hb hts n1_ tyX1 tyX1_ok nmX1 hown hK hP hD hS 0 rfl rfl 11 (Nat.le_of_ble_eq_true rfl) k16_ (fun _ h => h) rfl (v := .int opu) (tyX1_ok 11 (Nat.le_of_ble_eq_true rfl)) rfl rfl (Nat.le_of_ble_eq_true rfl) dX1_copyFrom_121 (fun H locs hP hD hS => ?_)
  have hP : va_P D vwCl (w_grinder2 cI cC gh a oh o q1.1 q1.2.1 q1.2.2.1 q1.2.2.2 q2.1 q2.2.1 q2.2.2.1 q2.2.2.2 q3.1 q3.2.1 q3.2.2.1 q3.2.2.2 q4.1 q4.2.1 q4.2.2.1 q4.2.2.2 q5.1 q5.2.1 q5.2.2.1 q5.2.2.2 q6.1 q6.2.1 q6.2.2 Z8 ose ofi ogr obr opu nr opA opM opn opt od0 ow0 og0 ok0 od1 ow1 og1 ok1 oqA oqM oqn oqt ouA ouM oun out osF osk osm ost ose ofi ogr obr opu onr) H := hP
  have hD : va_D AA (w_grinder2 cI cC gh a oh o q1.1 q1.2.1 q1.2.2.1 q1.2.2.2 q2.1 q2.2.1 q2.2.2.1 q2.2.2.2 q3.1 q3.2.1 q3.2.2.1 q3.2.2.2 q4.1 q4.2.1 q4.2.2.1 q4.2.2.2 q5.1 q5.2.1 q5.2.2.1 q5.2.2.2 q6.1 q6.2.1 q6.2.2 Z8 ose ofi ogr obr opu nr opA opM opn opt od0 ow0 og0 ok0 od1 ow1 og1 ok1 oqA oqM oqn oqt ouA ouM oun out osF osk osm ost ose ofi ogr obr opu onr) := hD
  refine lv_aload_n hx hb dX1_copyFrom_124 rfl (lv_at hl 0 rfl) ?_
  refine lv_aload_n hx hb dX1_copyFrom_125 rfl (lv_at hl 1 rfl) ?_
  refine va_get hx hb hts n1_ hown hK hP 16 rfl rfl 12 (Nat.le_of_ble_eq_true rfl) k17_ (fun _ h => h) rfl dX1_copyFrom_126 ?_
  refine va_put hx hb hts n1_ tyX1 tyX1_ok nmX1 hown hK hP hD hS 0 rfl rfl 12 (Nat.le_of_ble_eq_true rfl) k17_ (fun _ h => h) rfl (v := .int onr) (tyX1_ok 12 (Nat.le_of_ble_eq_true rfl)) rfl rfl (Nat.le_of_ble_eq_true rfl) dX1_copyFrom_129 (fun H locs hP hD hS => ?_)
  have hP : va_P D vwCl (w_grinder2 cI cC gh a oh o q1.1 q1.2.1 q1.2.2.1 q1.2.2.2 q2.1 q2.2.1 q2.2.2.1 q2.2.2.2 q3.1 q3.2.1 q3.2.2.1 q3.2.2.2 q4.1 q4.2.1 q4.2.2.1 q4.2.2.2 q5.1 q5.2.1 q5.2.2.1 q5.2.2.2 q6.1 q6.2.1 q6.2.2 Z8 ose ofi ogr obr opu onr opA opM opn opt od0 ow0 og0 ok0 od1 ow1 og1 ok1 oqA oqM oqn oqt ouA ouM oun out osF osk osm ost ose ofi ogr obr opu onr) H := hP
  have hD : va_D AA (w_grinder2 cI cC gh a oh o q1.1 q1.2.1 q1.2.2.1 q1.2.2.2 q2.1 q2.2.1 q2.2.2.1 q2.2.2.2 q3.1 q3.2.1 q3.2.2.1 q3.2.2.2 q4.1 q4.2.1 q4.2.2.1 q4.2.2.2 q5.1 q5.2.1 q5.2.2.1 q5.2.2.2 q6.1 q6.2.1 q6.2.2 Z8 ose ofi ogr obr opu onr opA opM opn opt od0 ow0 og0 ok0 od1 ow1 og1 ok1 oqA oqM oqn oqt ouA ouM oun out osF osk osm ost ose ofi ogr obr opu onr) := hD
  obtain rfl := Option.some.inj hf
  exact ret 132 ls H locs dX1_copyFrom_132 hP hS
noncomputable def F_X1_fillIn (x1 : Int32) (x2 : Int32) (g : Gr) : Option (Int32 × Gr) := (f_X1_fillIn x1 x2 g.1 g.2.1 g.2.2.1 g.2.2.2.1 g.2.2.2.2.2.2.2.2.2.2.2.2.2.2.2.2.2.2.2.2.2.2.2.2.2.1).bind fun q => some (q.1, (q.2.1, q.2.2.1, q.2.2.2.1, q.2.2.2.2.1, g.2.2.2.2.1, g.2.2.2.2.2.1, g.2.2.2.2.2.2.1, g.2.2.2.2.2.2.2.1, g.2.2.2.2.2.2.2.2.1, g.2.2.2.2.2.2.2.2.2.1, g.2.2.2.2.2.2.2.2.2.2.1, g.2.2.2.2.2.2.2.2.2.2.2.1, g.2.2.2.2.2.2.2.2.2.2.2.2.1, g.2.2.2.2.2.2.2.2.2.2.2.2.2.1, g.2.2.2.2.2.2.2.2.2.2.2.2.2.2.1, g.2.2.2.2.2.2.2.2.2.2.2.2.2.2.2.1, g.2.2.2.2.2.2.2.2.2.2.2.2.2.2.2.2.1, g.2.2.2.2.2.2.2.2.2.2.2.2.2.2.2.2.2.1, g.2.2.2.2.2.2.2.2.2.2.2.2.2.2.2.2.2.2.1, g.2.2.2.2.2.2.2.2.2.2.2.2.2.2.2.2.2.2.2.1, g.2.2.2.2.2.2.2.2.2.2.2.2.2.2.2.2.2.2.2.2.1, g.2.2.2.2.2.2.2.2.2.2.2.2.2.2.2.2.2.2.2.2.2.1, g.2.2.2.2.2.2.2.2.2.2.2.2.2.2.2.2.2.2.2.2.2.2.1, g.2.2.2.2.2.2.2.2.2.2.2.2.2.2.2.2.2.2.2.2.2.2.2.1, g.2.2.2.2.2.2.2.2.2.2.2.2.2.2.2.2.2.2.2.2.2.2.2.2.1, q.2.2.2.2.2, g.2.2.2.2.2.2.2.2.2.2.2.2.2.2.2.2.2.2.2.2.2.2.2.2.2.2.1, g.2.2.2.2.2.2.2.2.2.2.2.2.2.2.2.2.2.2.2.2.2.2.2.2.2.2.2.1, g.2.2.2.2.2.2.2.2.2.2.2.2.2.2.2.2.2.2.2.2.2.2.2.2.2.2.2.2.1, g.2.2.2.2.2.2.2.2.2.2.2.2.2.2.2.2.2.2.2.2.2.2.2.2.2.2.2.2.2))
theorem C_X1_fillIn (gh : Nat) (a : Nat → Nat) (x1 : Int32) (x2 : Int32) (g : Gr) (R : Int32 × Gr) (hf : F_X1_fillIn x1 x2 g = some R) : WrI l yX1_fillIn wsX1_fillIn rmX1_fillIn D cI cC (w_gr cI cC gh a g) (w_gr cI cC gh a R.2) [.ref gh, .int x1, .int x2] R.1 := by
  obtain ⟨q, hq, hr⟩ := ob hf
  obtain rfl := Option.some.inj hr
  exact c_X1_fillIn gh a x1 x2 g.1 g.2.1 g.2.2.1 g.2.2.2.1 g.2.2.2.2.1 g.2.2.2.2.2.1 g.2.2.2.2.2.2.1 g.2.2.2.2.2.2.2.1 g.2.2.2.2.2.2.2.2.1 g.2.2.2.2.2.2.2.2.2.1 g.2.2.2.2.2.2.2.2.2.2.1 g.2.2.2.2.2.2.2.2.2.2.2.1 g.2.2.2.2.2.2.2.2.2.2.2.2.1 g.2.2.2.2.2.2.2.2.2.2.2.2.2.1 g.2.2.2.2.2.2.2.2.2.2.2.2.2.2.1 g.2.2.2.2.2.2.2.2.2.2.2.2.2.2.2.1 g.2.2.2.2.2.2.2.2.2.2.2.2.2.2.2.2.1 g.2.2.2.2.2.2.2.2.2.2.2.2.2.2.2.2.2.1 g.2.2.2.2.2.2.2.2.2.2.2.2.2.2.2.2.2.2.1 g.2.2.2.2.2.2.2.2.2.2.2.2.2.2.2.2.2.2.2.1 g.2.2.2.2.2.2.2.2.2.2.2.2.2.2.2.2.2.2.2.2.1 g.2.2.2.2.2.2.2.2.2.2.2.2.2.2.2.2.2.2.2.2.2.1 g.2.2.2.2.2.2.2.2.2.2.2.2.2.2.2.2.2.2.2.2.2.2.1 g.2.2.2.2.2.2.2.2.2.2.2.2.2.2.2.2.2.2.2.2.2.2.2.1 g.2.2.2.2.2.2.2.2.2.2.2.2.2.2.2.2.2.2.2.2.2.2.2.2.1 g.2.2.2.2.2.2.2.2.2.2.2.2.2.2.2.2.2.2.2.2.2.2.2.2.2.1 g.2.2.2.2.2.2.2.2.2.2.2.2.2.2.2.2.2.2.2.2.2.2.2.2.2.2.1 g.2.2.2.2.2.2.2.2.2.2.2.2.2.2.2.2.2.2.2.2.2.2.2.2.2.2.2.1 g.2.2.2.2.2.2.2.2.2.2.2.2.2.2.2.2.2.2.2.2.2.2.2.2.2.2.2.2.1 g.2.2.2.2.2.2.2.2.2.2.2.2.2.2.2.2.2.2.2.2.2.2.2.2.2.2.2.2.2 q hq
noncomputable def F_X1_grindBy (x1 : Int32) (x2 : Int32) (g : Gr) : Option (Int32 × Gr) := (f_X1_grindBy x1 x2 g.1 g.2.1 g.2.2.1 g.2.2.2.1 g.2.2.2.2.1 g.2.2.2.2.2.1 g.2.2.2.2.2.2.1 g.2.2.2.2.2.2.2.2.1 g.2.2.2.2.2.2.2.2.2.1 g.2.2.2.2.2.2.2.2.2.2.1 g.2.2.2.2.2.2.2.2.2.2.2.2.1 g.2.2.2.2.2.2.2.2.2.2.2.2.2.1 g.2.2.2.2.2.2.2.2.2.2.2.2.2.2.1 g.2.2.2.2.2.2.2.2.2.2.2.2.2.2.2.1 g.2.2.2.2.2.2.2.2.2.2.2.2.2.2.2.2.1 g.2.2.2.2.2.2.2.2.2.2.2.2.2.2.2.2.2.1 g.2.2.2.2.2.2.2.2.2.2.2.2.2.2.2.2.2.2.1 g.2.2.2.2.2.2.2.2.2.2.2.2.2.2.2.2.2.2.2.1 g.2.2.2.2.2.2.2.2.2.2.2.2.2.2.2.2.2.2.2.2.2.2.2.1 g.2.2.2.2.2.2.2.2.2.2.2.2.2.2.2.2.2.2.2.2.2.2.2.2.1 g.2.2.2.2.2.2.2.2.2.2.2.2.2.2.2.2.2.2.2.2.2.2.2.2.2.2.1).bind fun q => some (q.1, (q.2.1, q.2.2.1, q.2.2.2.1, q.2.2.2.2.1, g.2.2.2.2.1, q.2.2.2.2.2.1, q.2.2.2.2.2.2.1, g.2.2.2.2.2.2.2.1, g.2.2.2.2.2.2.2.2.1, q.2.2.2.2.2.2.2.1, q.2.2.2.2.2.2.2.2.1, g.2.2.2.2.2.2.2.2.2.2.2.1, q.2.2.2.2.2.2.2.2.2.1, q.2.2.2.2.2.2.2.2.2.2.1, q.2.2.2.2.2.2.2.2.2.2.2.1, q.2.2.2.2.2.2.2.2.2.2.2.2.1, q.2.2.2.2.2.2.2.2.2.2.2.2.2.1, q.2.2.2.2.2.2.2.2.2.2.2.2.2.2.1, q.2.2.2.2.2.2.2.2.2.2.2.2.2.2.2.1, q.2.2.2.2.2.2.2.2.2.2.2.2.2.2.2.2.1, g.2.2.2.2.2.2.2.2.2.2.2.2.2.2.2.2.2.2.2.2.1, g.2.2.2.2.2.2.2.2.2.2.2.2.2.2.2.2.2.2.2.2.2.1, g.2.2.2.2.2.2.2.2.2.2.2.2.2.2.2.2.2.2.2.2.2.2.1, g.2.2.2.2.2.2.2.2.2.2.2.2.2.2.2.2.2.2.2.2.2.2.2.1, q.2.2.2.2.2.2.2.2.2.2.2.2.2.2.2.2.2.1, g.2.2.2.2.2.2.2.2.2.2.2.2.2.2.2.2.2.2.2.2.2.2.2.2.2.1, q.2.2.2.2.2.2.2.2.2.2.2.2.2.2.2.2.2.2, g.2.2.2.2.2.2.2.2.2.2.2.2.2.2.2.2.2.2.2.2.2.2.2.2.2.2.2.1, g.2.2.2.2.2.2.2.2.2.2.2.2.2.2.2.2.2.2.2.2.2.2.2.2.2.2.2.2.1, g.2.2.2.2.2.2.2.2.2.2.2.2.2.2.2.2.2.2.2.2.2.2.2.2.2.2.2.2.2))
theorem C_X1_grindBy (gh : Nat) (a : Nat → Nat) (x1 : Int32) (x2 : Int32) (g : Gr) (R : Int32 × Gr) (hf : F_X1_grindBy x1 x2 g = some R) : WrI l yX1_grindBy wsX1_grindBy rmX1_grindBy D cI cC (w_gr cI cC gh a g) (w_gr cI cC gh a R.2) [.ref gh, .int x1, .int x2] R.1 := by
  obtain ⟨q, hq, hr⟩ := ob hf
  obtain rfl := Option.some.inj hr
  exact c_X1_grindBy gh a x1 x2 g.1 g.2.1 g.2.2.1 g.2.2.2.1 g.2.2.2.2.1 g.2.2.2.2.2.1 g.2.2.2.2.2.2.1 g.2.2.2.2.2.2.2.1 g.2.2.2.2.2.2.2.2.1 g.2.2.2.2.2.2.2.2.2.1 g.2.2.2.2.2.2.2.2.2.2.1 g.2.2.2.2.2.2.2.2.2.2.2.1 g.2.2.2.2.2.2.2.2.2.2.2.2.1 g.2.2.2.2.2.2.2.2.2.2.2.2.2.1 g.2.2.2.2.2.2.2.2.2.2.2.2.2.2.1 g.2.2.2.2.2.2.2.2.2.2.2.2.2.2.2.1 g.2.2.2.2.2.2.2.2.2.2.2.2.2.2.2.2.1 g.2.2.2.2.2.2.2.2.2.2.2.2.2.2.2.2.2.1 g.2.2.2.2.2.2.2.2.2.2.2.2.2.2.2.2.2.2.1 g.2.2.2.2.2.2.2.2.2.2.2.2.2.2.2.2.2.2.2.1 g.2.2.2.2.2.2.2.2.2.2.2.2.2.2.2.2.2.2.2.2.1 g.2.2.2.2.2.2.2.2.2.2.2.2.2.2.2.2.2.2.2.2.2.1 g.2.2.2.2.2.2.2.2.2.2.2.2.2.2.2.2.2.2.2.2.2.2.1 g.2.2.2.2.2.2.2.2.2.2.2.2.2.2.2.2.2.2.2.2.2.2.2.1 g.2.2.2.2.2.2.2.2.2.2.2.2.2.2.2.2.2.2.2.2.2.2.2.2.1 g.2.2.2.2.2.2.2.2.2.2.2.2.2.2.2.2.2.2.2.2.2.2.2.2.2.1 g.2.2.2.2.2.2.2.2.2.2.2.2.2.2.2.2.2.2.2.2.2.2.2.2.2.2.1 g.2.2.2.2.2.2.2.2.2.2.2.2.2.2.2.2.2.2.2.2.2.2.2.2.2.2.2.1 g.2.2.2.2.2.2.2.2.2.2.2.2.2.2.2.2.2.2.2.2.2.2.2.2.2.2.2.2.1 g.2.2.2.2.2.2.2.2.2.2.2.2.2.2.2.2.2.2.2.2.2.2.2.2.2.2.2.2.2 q hq
noncomputable def F_X1_turnDial (x1 : Int32) (x2 : Int32) (g : Gr) : Option (Int32 × Gr) := (f_X1_turnDial x1 x2 g.2.2.2.2.1 g.2.2.2.2.2.2.2.2.1).bind fun q => some (q.1, (g.1, g.2.1, g.2.2.1, g.2.2.2.1, q.2.1, g.2.2.2.2.2.1, g.2.2.2.2.2.2.1, g.2.2.2.2.2.2.2.1, q.2.2, g.2.2.2.2.2.2.2.2.2.1, g.2.2.2.2.2.2.2.2.2.2.1, g.2.2.2.2.2.2.2.2.2.2.2.1, g.2.2.2.2.2.2.2.2.2.2.2.2.1, g.2.2.2.2.2.2.2.2.2.2.2.2.2.1, g.2.2.2.2.2.2.2.2.2.2.2.2.2.2.1, g.2.2.2.2.2.2.2.2.2.2.2.2.2.2.2.1, g.2.2.2.2.2.2.2.2.2.2.2.2.2.2.2.2.1, g.2.2.2.2.2.2.2.2.2.2.2.2.2.2.2.2.2.1, g.2.2.2.2.2.2.2.2.2.2.2.2.2.2.2.2.2.2.1, g.2.2.2.2.2.2.2.2.2.2.2.2.2.2.2.2.2.2.2.1, g.2.2.2.2.2.2.2.2.2.2.2.2.2.2.2.2.2.2.2.2.1, g.2.2.2.2.2.2.2.2.2.2.2.2.2.2.2.2.2.2.2.2.2.1, g.2.2.2.2.2.2.2.2.2.2.2.2.2.2.2.2.2.2.2.2.2.2.1, g.2.2.2.2.2.2.2.2.2.2.2.2.2.2.2.2.2.2.2.2.2.2.2.1, g.2.2.2.2.2.2.2.2.2.2.2.2.2.2.2.2.2.2.2.2.2.2.2.2.1, g.2.2.2.2.2.2.2.2.2.2.2.2.2.2.2.2.2.2.2.2.2.2.2.2.2.1, g.2.2.2.2.2.2.2.2.2.2.2.2.2.2.2.2.2.2.2.2.2.2.2.2.2.2.1, g.2.2.2.2.2.2.2.2.2.2.2.2.2.2.2.2.2.2.2.2.2.2.2.2.2.2.2.1, g.2.2.2.2.2.2.2.2.2.2.2.2.2.2.2.2.2.2.2.2.2.2.2.2.2.2.2.2.1, g.2.2.2.2.2.2.2.2.2.2.2.2.2.2.2.2.2.2.2.2.2.2.2.2.2.2.2.2.2))
theorem C_X1_turnDial (gh : Nat) (a : Nat → Nat) (x1 : Int32) (x2 : Int32) (g : Gr) (R : Int32 × Gr) (hf : F_X1_turnDial x1 x2 g = some R) : WrI l yX1_turnDial wsX1_turnDial rmX1_turnDial D cI cC (w_gr cI cC gh a g) (w_gr cI cC gh a R.2) [.ref gh, .int x1, .int x2] R.1 := by
  obtain ⟨q, hq, hr⟩ := ob hf
  obtain rfl := Option.some.inj hr
  exact c_X1_turnDial gh a x1 x2 g.1 g.2.1 g.2.2.1 g.2.2.2.1 g.2.2.2.2.1 g.2.2.2.2.2.1 g.2.2.2.2.2.2.1 g.2.2.2.2.2.2.2.1 g.2.2.2.2.2.2.2.2.1 g.2.2.2.2.2.2.2.2.2.1 g.2.2.2.2.2.2.2.2.2.2.1 g.2.2.2.2.2.2.2.2.2.2.2.1 g.2.2.2.2.2.2.2.2.2.2.2.2.1 g.2.2.2.2.2.2.2.2.2.2.2.2.2.1 g.2.2.2.2.2.2.2.2.2.2.2.2.2.2.1 g.2.2.2.2.2.2.2.2.2.2.2.2.2.2.2.1 g.2.2.2.2.2.2.2.2.2.2.2.2.2.2.2.2.1 g.2.2.2.2.2.2.2.2.2.2.2.2.2.2.2.2.2.1 g.2.2.2.2.2.2.2.2.2.2.2.2.2.2.2.2.2.2.1 g.2.2.2.2.2.2.2.2.2.2.2.2.2.2.2.2.2.2.2.1 g.2.2.2.2.2.2.2.2.2.2.2.2.2.2.2.2.2.2.2.2.1 g.2.2.2.2.2.2.2.2.2.2.2.2.2.2.2.2.2.2.2.2.2.1 g.2.2.2.2.2.2.2.2.2.2.2.2.2.2.2.2.2.2.2.2.2.2.1 g.2.2.2.2.2.2.2.2.2.2.2.2.2.2.2.2.2.2.2.2.2.2.2.1 g.2.2.2.2.2.2.2.2.2.2.2.2.2.2.2.2.2.2.2.2.2.2.2.2.1 g.2.2.2.2.2.2.2.2.2.2.2.2.2.2.2.2.2.2.2.2.2.2.2.2.2.1 g.2.2.2.2.2.2.2.2.2.2.2.2.2.2.2.2.2.2.2.2.2.2.2.2.2.2.1 g.2.2.2.2.2.2.2.2.2.2.2.2.2.2.2.2.2.2.2.2.2.2.2.2.2.2.2.1 g.2.2.2.2.2.2.2.2.2.2.2.2.2.2.2.2.2.2.2.2.2.2.2.2.2.2.2.2.1 g.2.2.2.2.2.2.2.2.2.2.2.2.2.2.2.2.2.2.2.2.2.2.2.2.2.2.2.2.2 q hq
noncomputable def F_X1_letPass (x1 : Int32) (g : Gr) : Option (Int32 × Gr) := (f_X1_letPass x1 g.2.2.2.2.2.1 g.2.2.2.2.2.2.2.2.2.1 g.2.2.2.2.2.2.2.2.2.2.2.2.2.2.2.2.2.2.2.2.2.2.2.2.1).bind fun q => some (q.1, (g.1, g.2.1, g.2.2.1, g.2.2.2.1, g.2.2.2.2.1, q.2.1, g.2.2.2.2.2.2.1, g.2.2.2.2.2.2.2.1, g.2.2.2.2.2.2.2.2.1, q.2.2.1, g.2.2.2.2.2.2.2.2.2.2.1, g.2.2.2.2.2.2.2.2.2.2.2.1, g.2.2.2.2.2.2.2.2.2.2.2.2.1, g.2.2.2.2.2.2.2.2.2.2.2.2.2.1, g.2.2.2.2.2.2.2.2.2.2.2.2.2.2.1, g.2.2.2.2.2.2.2.2.2.2.2.2.2.2.2.1, g.2.2.2.2.2.2.2.2.2.2.2.2.2.2.2.2.1, g.2.2.2.2.2.2.2.2.2.2.2.2.2.2.2.2.2.1, g.2.2.2.2.2.2.2.2.2.2.2.2.2.2.2.2.2.2.1, g.2.2.2.2.2.2.2.2.2.2.2.2.2.2.2.2.2.2.2.1, g.2.2.2.2.2.2.2.2.2.2.2.2.2.2.2.2.2.2.2.2.1, g.2.2.2.2.2.2.2.2.2.2.2.2.2.2.2.2.2.2.2.2.2.1, g.2.2.2.2.2.2.2.2.2.2.2.2.2.2.2.2.2.2.2.2.2.2.1, g.2.2.2.2.2.2.2.2.2.2.2.2.2.2.2.2.2.2.2.2.2.2.2.1, q.2.2.2, g.2.2.2.2.2.2.2.2.2.2.2.2.2.2.2.2.2.2.2.2.2.2.2.2.2.1, g.2.2.2.2.2.2.2.2.2.2.2.2.2.2.2.2.2.2.2.2.2.2.2.2.2.2.1, g.2.2.2.2.2.2.2.2.2.2.2.2.2.2.2.2.2.2.2.2.2.2.2.2.2.2.2.1, g.2.2.2.2.2.2.2.2.2.2.2.2.2.2.2.2.2.2.2.2.2.2.2.2.2.2.2.2.1, g.2.2.2.2.2.2.2.2.2.2.2.2.2.2.2.2.2.2.2.2.2.2.2.2.2.2.2.2.2))
theorem C_X1_letPass (gh : Nat) (a : Nat → Nat) (x1 : Int32) (g : Gr) (R : Int32 × Gr) (hf : F_X1_letPass x1 g = some R) : WrI l yX1_letPass wsX1_letPass rmX1_letPass D cI cC (w_gr cI cC gh a g) (w_gr cI cC gh a R.2) [.ref gh, .int x1] R.1 := by
  obtain ⟨q, hq, hr⟩ := ob hf
  obtain rfl := Option.some.inj hr
  exact c_X1_letPass gh a x1 g.1 g.2.1 g.2.2.1 g.2.2.2.1 g.2.2.2.2.1 g.2.2.2.2.2.1 g.2.2.2.2.2.2.1 g.2.2.2.2.2.2.2.1 g.2.2.2.2.2.2.2.2.1 g.2.2.2.2.2.2.2.2.2.1 g.2.2.2.2.2.2.2.2.2.2.1 g.2.2.2.2.2.2.2.2.2.2.2.1 g.2.2.2.2.2.2.2.2.2.2.2.2.1 g.2.2.2.2.2.2.2.2.2.2.2.2.2.1 g.2.2.2.2.2.2.2.2.2.2.2.2.2.2.1 g.2.2.2.2.2.2.2.2.2.2.2.2.2.2.2.1 g.2.2.2.2.2.2.2.2.2.2.2.2.2.2.2.2.1 g.2.2.2.2.2.2.2.2.2.2.2.2.2.2.2.2.2.1 g.2.2.2.2.2.2.2.2.2.2.2.2.2.2.2.2.2.2.1 g.2.2.2.2.2.2.2.2.2.2.2.2.2.2.2.2.2.2.2.1 g.2.2.2.2.2.2.2.2.2.2.2.2.2.2.2.2.2.2.2.2.1 g.2.2.2.2.2.2.2.2.2.2.2.2.2.2.2.2.2.2.2.2.2.1 g.2.2.2.2.2.2.2.2.2.2.2.2.2.2.2.2.2.2.2.2.2.2.1 g.2.2.2.2.2.2.2.2.2.2.2.2.2.2.2.2.2.2.2.2.2.2.2.1 g.2.2.2.2.2.2.2.2.2.2.2.2.2.2.2.2.2.2.2.2.2.2.2.2.1 g.2.2.2.2.2.2.2.2.2.2.2.2.2.2.2.2.2.2.2.2.2.2.2.2.2.1 g.2.2.2.2.2.2.2.2.2.2.2.2.2.2.2.2.2.2.2.2.2.2.2.2.2.2.1 g.2.2.2.2.2.2.2.2.2.2.2.2.2.2.2.2.2.2.2.2.2.2.2.2.2.2.2.1 g.2.2.2.2.2.2.2.2.2.2.2.2.2.2.2.2.2.2.2.2.2.2.2.2.2.2.2.2.1 g.2.2.2.2.2.2.2.2.2.2.2.2.2.2.2.2.2.2.2.2.2.2.2.2.2.2.2.2.2 q hq
noncomputable def F_X1_makeShot (g : Gr) : Option (Int32 × Gr) := (f_X1_makeShot g.2.2.2.2.1 g.2.2.2.2.2.1 g.2.2.2.2.2.2.2.1 g.2.2.2.2.2.2.2.2.1 g.2.2.2.2.2.2.2.2.2.1 g.2.2.2.2.2.2.2.2.2.2.2.1 g.2.2.2.2.2.2.2.2.2.2.2.2.2.2.2.2.1 g.2.2.2.2.2.2.2.2.2.2.2.2.2.2.2.2.2.1 g.2.2.2.2.2.2.2.2.2.2.2.2.2.2.2.2.2.2.1 g.2.2.2.2.2.2.2.2.2.2.2.2.2.2.2.2.2.2.2.1 g.2.2.2.2.2.2.2.2.2.2.2.2.2.2.2.2.2.2.2.2.1 g.2.2.2.2.2.2.2.2.2.2.2.2.2.2.2.2.2.2.2.2.2.1 g.2.2.2.2.2.2.2.2.2.2.2.2.2.2.2.2.2.2.2.2.2.2.1 g.2.2.2.2.2.2.2.2.2.2.2.2.2.2.2.2.2.2.2.2.2.2.2.1 g.2.2.2.2.2.2.2.2.2.2.2.2.2.2.2.2.2.2.2.2.2.2.2.2.1 g.2.2.2.2.2.2.2.2.2.2.2.2.2.2.2.2.2.2.2.2.2.2.2.2.2.2.2.1 g.2.2.2.2.2.2.2.2.2.2.2.2.2.2.2.2.2.2.2.2.2.2.2.2.2.2.2.2.2).bind fun q => some (q.1, (g.1, g.2.1, g.2.2.1, g.2.2.2.1, q.2.1, q.2.2.1, g.2.2.2.2.2.2.1, q.2.2.2.1, q.2.2.2.2.1, q.2.2.2.2.2.1, g.2.2.2.2.2.2.2.2.2.2.1, q.2.2.2.2.2.2.1, g.2.2.2.2.2.2.2.2.2.2.2.2.1, g.2.2.2.2.2.2.2.2.2.2.2.2.2.1, g.2.2.2.2.2.2.2.2.2.2.2.2.2.2.1, g.2.2.2.2.2.2.2.2.2.2.2.2.2.2.2.1, g.2.2.2.2.2.2.2.2.2.2.2.2.2.2.2.2.1, g.2.2.2.2.2.2.2.2.2.2.2.2.2.2.2.2.2.1, q.2.2.2.2.2.2.2.1, q.2.2.2.2.2.2.2.2.1, q.2.2.2.2.2.2.2.2.2.1, q.2.2.2.2.2.2.2.2.2.2.1, q.2.2.2.2.2.2.2.2.2.2.2.1, g.2.2.2.2.2.2.2.2.2.2.2.2.2.2.2.2.2.2.2.2.2.2.2.1, q.2.2.2.2.2.2.2.2.2.2.2.2.1, g.2.2.2.2.2.2.2.2.2.2.2.2.2.2.2.2.2.2.2.2.2.2.2.2.2.1, g.2.2.2.2.2.2.2.2.2.2.2.2.2.2.2.2.2.2.2.2.2.2.2.2.2.2.1, q.2.2.2.2.2.2.2.2.2.2.2.2.2.1, g.2.2.2.2.2.2.2.2.2.2.2.2.2.2.2.2.2.2.2.2.2.2.2.2.2.2.2.2.1, q.2.2.2.2.2.2.2.2.2.2.2.2.2.2))
theorem C_X1_makeShot (gh : Nat) (a : Nat → Nat) (g : Gr) (R : Int32 × Gr) (hf : F_X1_makeShot g = some R) : WrI l yX1_makeShot wsX1_makeShot rmX1_makeShot D cI cC (w_gr cI cC gh a g) (w_gr cI cC gh a R.2) [.ref gh] R.1 := by
  obtain ⟨q, hq, hr⟩ := ob hf
  obtain rfl := Option.some.inj hr
  exact c_X1_makeShot gh a g.1 g.2.1 g.2.2.1 g.2.2.2.1 g.2.2.2.2.1 g.2.2.2.2.2.1 g.2.2.2.2.2.2.1 g.2.2.2.2.2.2.2.1 g.2.2.2.2.2.2.2.2.1 g.2.2.2.2.2.2.2.2.2.1 g.2.2.2.2.2.2.2.2.2.2.1 g.2.2.2.2.2.2.2.2.2.2.2.1 g.2.2.2.2.2.2.2.2.2.2.2.2.1 g.2.2.2.2.2.2.2.2.2.2.2.2.2.1 g.2.2.2.2.2.2.2.2.2.2.2.2.2.2.1 g.2.2.2.2.2.2.2.2.2.2.2.2.2.2.2.1 g.2.2.2.2.2.2.2.2.2.2.2.2.2.2.2.2.1 g.2.2.2.2.2.2.2.2.2.2.2.2.2.2.2.2.2.1 g.2.2.2.2.2.2.2.2.2.2.2.2.2.2.2.2.2.2.1 g.2.2.2.2.2.2.2.2.2.2.2.2.2.2.2.2.2.2.2.1 g.2.2.2.2.2.2.2.2.2.2.2.2.2.2.2.2.2.2.2.2.1 g.2.2.2.2.2.2.2.2.2.2.2.2.2.2.2.2.2.2.2.2.2.1 g.2.2.2.2.2.2.2.2.2.2.2.2.2.2.2.2.2.2.2.2.2.2.1 g.2.2.2.2.2.2.2.2.2.2.2.2.2.2.2.2.2.2.2.2.2.2.2.1 g.2.2.2.2.2.2.2.2.2.2.2.2.2.2.2.2.2.2.2.2.2.2.2.2.1 g.2.2.2.2.2.2.2.2.2.2.2.2.2.2.2.2.2.2.2.2.2.2.2.2.2.1 g.2.2.2.2.2.2.2.2.2.2.2.2.2.2.2.2.2.2.2.2.2.2.2.2.2.2.1 g.2.2.2.2.2.2.2.2.2.2.2.2.2.2.2.2.2.2.2.2.2.2.2.2.2.2.2.1 g.2.2.2.2.2.2.2.2.2.2.2.2.2.2.2.2.2.2.2.2.2.2.2.2.2.2.2.2.1 g.2.2.2.2.2.2.2.2.2.2.2.2.2.2.2.2.2.2.2.2.2.2.2.2.2.2.2.2.2 q hq
noncomputable def F_X1_emptyChute (g : Gr) : Option (Int32 × Gr) := (f_X1_emptyChute g.2.2.2.2.2.2.2.2.2.2.2.2.2.2.1 g.2.2.2.2.2.2.2.2.2.2.2.2.2.2.2.1 g.2.2.2.2.2.2.2.2.2.2.2.2.2.2.2.2.2.2.2.2.2.2.2.2.2.2.2.2.1).bind fun q => some (q.1, (g.1, g.2.1, g.2.2.1, g.2.2.2.1, g.2.2.2.2.1, g.2.2.2.2.2.1, g.2.2.2.2.2.2.1, g.2.2.2.2.2.2.2.1, g.2.2.2.2.2.2.2.2.1, g.2.2.2.2.2.2.2.2.2.1, g.2.2.2.2.2.2.2.2.2.2.1, g.2.2.2.2.2.2.2.2.2.2.2.1, g.2.2.2.2.2.2.2.2.2.2.2.2.1, g.2.2.2.2.2.2.2.2.2.2.2.2.2.1, q.2.1, q.2.2.1, g.2.2.2.2.2.2.2.2.2.2.2.2.2.2.2.2.1, g.2.2.2.2.2.2.2.2.2.2.2.2.2.2.2.2.2.1, g.2.2.2.2.2.2.2.2.2.2.2.2.2.2.2.2.2.2.1, g.2.2.2.2.2.2.2.2.2.2.2.2.2.2.2.2.2.2.2.1, g.2.2.2.2.2.2.2.2.2.2.2.2.2.2.2.2.2.2.2.2.1, g.2.2.2.2.2.2.2.2.2.2.2.2.2.2.2.2.2.2.2.2.2.1, g.2.2.2.2.2.2.2.2.2.2.2.2.2.2.2.2.2.2.2.2.2.2.1, g.2.2.2.2.2.2.2.2.2.2.2.2.2.2.2.2.2.2.2.2.2.2.2.1, g.2.2.2.2.2.2.2.2.2.2.2.2.2.2.2.2.2.2.2.2.2.2.2.2.1, g.2.2.2.2.2.2.2.2.2.2.2.2.2.2.2.2.2.2.2.2.2.2.2.2.2.1, g.2.2.2.2.2.2.2.2.2.2.2.2.2.2.2.2.2.2.2.2.2.2.2.2.2.2.1, g.2.2.2.2.2.2.2.2.2.2.2.2.2.2.2.2.2.2.2.2.2.2.2.2.2.2.2.1, q.2.2.2, g.2.2.2.2.2.2.2.2.2.2.2.2.2.2.2.2.2.2.2.2.2.2.2.2.2.2.2.2.2))
theorem C_X1_emptyChute (gh : Nat) (a : Nat → Nat) (g : Gr) (R : Int32 × Gr) (hf : F_X1_emptyChute g = some R) : WrI l yX1_emptyChute wsX1_emptyChute rmX1_emptyChute D cI cC (w_gr cI cC gh a g) (w_gr cI cC gh a R.2) [.ref gh] R.1 := by
  obtain ⟨q, hq, hr⟩ := ob hf
  obtain rfl := Option.some.inj hr
  exact c_X1_emptyChute gh a g.1 g.2.1 g.2.2.1 g.2.2.2.1 g.2.2.2.2.1 g.2.2.2.2.2.1 g.2.2.2.2.2.2.1 g.2.2.2.2.2.2.2.1 g.2.2.2.2.2.2.2.2.1 g.2.2.2.2.2.2.2.2.2.1 g.2.2.2.2.2.2.2.2.2.2.1 g.2.2.2.2.2.2.2.2.2.2.2.1 g.2.2.2.2.2.2.2.2.2.2.2.2.1 g.2.2.2.2.2.2.2.2.2.2.2.2.2.1 g.2.2.2.2.2.2.2.2.2.2.2.2.2.2.1 g.2.2.2.2.2.2.2.2.2.2.2.2.2.2.2.1 g.2.2.2.2.2.2.2.2.2.2.2.2.2.2.2.2.1 g.2.2.2.2.2.2.2.2.2.2.2.2.2.2.2.2.2.1 g.2.2.2.2.2.2.2.2.2.2.2.2.2.2.2.2.2.2.1 g.2.2.2.2.2.2.2.2.2.2.2.2.2.2.2.2.2.2.2.1 g.2.2.2.2.2.2.2.2.2.2.2.2.2.2.2.2.2.2.2.2.1 g.2.2.2.2.2.2.2.2.2.2.2.2.2.2.2.2.2.2.2.2.2.1 g.2.2.2.2.2.2.2.2.2.2.2.2.2.2.2.2.2.2.2.2.2.2.1 g.2.2.2.2.2.2.2.2.2.2.2.2.2.2.2.2.2.2.2.2.2.2.2.1 g.2.2.2.2.2.2.2.2.2.2.2.2.2.2.2.2.2.2.2.2.2.2.2.2.1 g.2.2.2.2.2.2.2.2.2.2.2.2.2.2.2.2.2.2.2.2.2.2.2.2.2.1 g.2.2.2.2.2.2.2.2.2.2.2.2.2.2.2.2.2.2.2.2.2.2.2.2.2.2.1 g.2.2.2.2.2.2.2.2.2.2.2.2.2.2.2.2.2.2.2.2.2.2.2.2.2.2.2.1 g.2.2.2.2.2.2.2.2.2.2.2.2.2.2.2.2.2.2.2.2.2.2.2.2.2.2.2.2.1 g.2.2.2.2.2.2.2.2.2.2.2.2.2.2.2.2.2.2.2.2.2.2.2.2.2.2.2.2.2 q hq
noncomputable def F_X1_correctByLatest (x1 : Int32) (g : Gr) : Option (Int32 × Gr) := (f_X1_correctByLatest x1 g.2.2.2.2.1 g.2.2.2.2.2.2.2.1 g.2.2.2.2.2.2.2.2.1 g.2.2.2.2.2.2.2.2.2.2.2.1 g.2.2.2.2.2.2.2.2.2.2.2.2.2.2.2.2.2.2.2.2.1 g.2.2.2.2.2.2.2.2.2.2.2.2.2.2.2.2.2.2.2.2.2.1 g.2.2.2.2.2.2.2.2.2.2.2.2.2.2.2.2.2.2.2.2.2.2.2.1).bind fun q => some (q.1, (g.1, g.2.1, g.2.2.1, g.2.2.2.1, q.2.1, g.2.2.2.2.2.1, g.2.2.2.2.2.2.1, q.2.2.1, q.2.2.2.1, g.2.2.2.2.2.2.2.2.2.1, g.2.2.2.2.2.2.2.2.2.2.1, q.2.2.2.2, g.2.2.2.2.2.2.2.2.2.2.2.2.1, g.2.2.2.2.2.2.2.2.2.2.2.2.2.1, g.2.2.2.2.2.2.2.2.2.2.2.2.2.2.1, g.2.2.2.2.2.2.2.2.2.2.2.2.2.2.2.1, g.2.2.2.2.2.2.2.2.2.2.2.2.2.2.2.2.1, g.2.2.2.2.2.2.2.2.2.2.2.2.2.2.2.2.2.1, g.2.2.2.2.2.2.2.2.2.2.2.2.2.2.2.2.2.2.1, g.2.2.2.2.2.2.2.2.2.2.2.2.2.2.2.2.2.2.2.1, g.2.2.2.2.2.2.2.2.2.2.2.2.2.2.2.2.2.2.2.2.1, g.2.2.2.2.2.2.2.2.2.2.2.2.2.2.2.2.2.2.2.2.2.1, g.2.2.2.2.2.2.2.2.2.2.2.2.2.2.2.2.2.2.2.2.2.2.1, g.2.2.2.2.2.2.2.2.2.2.2.2.2.2.2.2.2.2.2.2.2.2.2.1, g.2.2.2.2.2.2.2.2.2.2.2.2.2.2.2.2.2.2.2.2.2.2.2.2.1, g.2.2.2.2.2.2.2.2.2.2.2.2.2.2.2.2.2.2.2.2.2.2.2.2.2.1, g.2.2.2.2.2.2.2.2.2.2.2.2.2.2.2.2.2.2.2.2.2.2.2.2.2.2.1, g.2.2.2.2.2.2.2.2.2.2.2.2.2.2.2.2.2.2.2.2.2.2.2.2.2.2.2.1, g.2.2.2.2.2.2.2.2.2.2.2.2.2.2.2.2.2.2.2.2.2.2.2.2.2.2.2.2.1, g.2.2.2.2.2.2.2.2.2.2.2.2.2.2.2.2.2.2.2.2.2.2.2.2.2.2.2.2.2))
theorem C_X1_correctByLatest (gh : Nat) (a : Nat → Nat) (x1 : Int32) (g : Gr) (R : Int32 × Gr) (hf : F_X1_correctByLatest x1 g = some R) : WrI l yX1_correctByLatest wsX1_correctByLatest rmX1_correctByLatest D cI cC (w_gr cI cC gh a g) (w_gr cI cC gh a R.2) [.ref gh, .int x1] R.1 := by
  obtain ⟨q, hq, hr⟩ := ob hf
  obtain rfl := Option.some.inj hr
  exact c_X1_correctByLatest gh a x1 g.1 g.2.1 g.2.2.1 g.2.2.2.1 g.2.2.2.2.1 g.2.2.2.2.2.1 g.2.2.2.2.2.2.1 g.2.2.2.2.2.2.2.1 g.2.2.2.2.2.2.2.2.1 g.2.2.2.2.2.2.2.2.2.1 g.2.2.2.2.2.2.2.2.2.2.1 g.2.2.2.2.2.2.2.2.2.2.2.1 g.2.2.2.2.2.2.2.2.2.2.2.2.1 g.2.2.2.2.2.2.2.2.2.2.2.2.2.1 g.2.2.2.2.2.2.2.2.2.2.2.2.2.2.1 g.2.2.2.2.2.2.2.2.2.2.2.2.2.2.2.1 g.2.2.2.2.2.2.2.2.2.2.2.2.2.2.2.2.1 g.2.2.2.2.2.2.2.2.2.2.2.2.2.2.2.2.2.1 g.2.2.2.2.2.2.2.2.2.2.2.2.2.2.2.2.2.2.1 g.2.2.2.2.2.2.2.2.2.2.2.2.2.2.2.2.2.2.2.1 g.2.2.2.2.2.2.2.2.2.2.2.2.2.2.2.2.2.2.2.2.1 g.2.2.2.2.2.2.2.2.2.2.2.2.2.2.2.2.2.2.2.2.2.1 g.2.2.2.2.2.2.2.2.2.2.2.2.2.2.2.2.2.2.2.2.2.2.1 g.2.2.2.2.2.2.2.2.2.2.2.2.2.2.2.2.2.2.2.2.2.2.2.1 g.2.2.2.2.2.2.2.2.2.2.2.2.2.2.2.2.2.2.2.2.2.2.2.2.1 g.2.2.2.2.2.2.2.2.2.2.2.2.2.2.2.2.2.2.2.2.2.2.2.2.2.1 g.2.2.2.2.2.2.2.2.2.2.2.2.2.2.2.2.2.2.2.2.2.2.2.2.2.2.1 g.2.2.2.2.2.2.2.2.2.2.2.2.2.2.2.2.2.2.2.2.2.2.2.2.2.2.2.1 g.2.2.2.2.2.2.2.2.2.2.2.2.2.2.2.2.2.2.2.2.2.2.2.2.2.2.2.2.1 g.2.2.2.2.2.2.2.2.2.2.2.2.2.2.2.2.2.2.2.2.2.2.2.2.2.2.2.2.2 q hq
noncomputable def F_X1_changeSetting (x1 : Int32) (x2 : Int32) (g : Gr) : Option (Int32 × Gr) := (f_X1_changeSetting x1 x2 g.2.2.2.2.2.2.2.2.2.2.2.2.2.2.2.2.2.2.2.2.2.2.2.1).bind fun q => some (q.1, (g.1, g.2.1, g.2.2.1, g.2.2.2.1, g.2.2.2.2.1, g.2.2.2.2.2.1, g.2.2.2.2.2.2.1, g.2.2.2.2.2.2.2.1, g.2.2.2.2.2.2.2.2.1, g.2.2.2.2.2.2.2.2.2.1, g.2.2.2.2.2.2.2.2.2.2.1, g.2.2.2.2.2.2.2.2.2.2.2.1, g.2.2.2.2.2.2.2.2.2.2.2.2.1, g.2.2.2.2.2.2.2.2.2.2.2.2.2.1, g.2.2.2.2.2.2.2.2.2.2.2.2.2.2.1, g.2.2.2.2.2.2.2.2.2.2.2.2.2.2.2.1, g.2.2.2.2.2.2.2.2.2.2.2.2.2.2.2.2.1, g.2.2.2.2.2.2.2.2.2.2.2.2.2.2.2.2.2.1, g.2.2.2.2.2.2.2.2.2.2.2.2.2.2.2.2.2.2.1, g.2.2.2.2.2.2.2.2.2.2.2.2.2.2.2.2.2.2.2.1, g.2.2.2.2.2.2.2.2.2.2.2.2.2.2.2.2.2.2.2.2.1, g.2.2.2.2.2.2.2.2.2.2.2.2.2.2.2.2.2.2.2.2.2.1, g.2.2.2.2.2.2.2.2.2.2.2.2.2.2.2.2.2.2.2.2.2.2.1, q.2, g.2.2.2.2.2.2.2.2.2.2.2.2.2.2.2.2.2.2.2.2.2.2.2.2.1, g.2.2.2.2.2.2.2.2.2.2.2.2.2.2.2.2.2.2.2.2.2.2.2.2.2.1, g.2.2.2.2.2.2.2.2.2.2.2.2.2.2.2.2.2.2.2.2.2.2.2.2.2.2.1, g.2.2.2.2.2.2.2.2.2.2.2.2.2.2.2.2.2.2.2.2.2.2.2.2.2.2.2.1, g.2.2.2.2.2.2.2.2.2.2.2.2.2.2.2.2.2.2.2.2.2.2.2.2.2.2.2.2.1, g.2.2.2.2.2.2.2.2.2.2.2.2.2.2.2.2.2.2.2.2.2.2.2.2.2.2.2.2.2))
theorem C_X1_changeSetting (gh : Nat) (a : Nat → Nat) (x1 : Int32) (x2 : Int32) (g : Gr) (R : Int32 × Gr) (hf : F_X1_changeSetting x1 x2 g = some R) : WrIS l yX1_changeSetting wsX1_changeSetting rmX1_changeSetting D cI cC (w_gr cI cC gh a g) (w_gr cI cC gh a R.2) [.ref gh, .int x1, .int x2] R.1 := by
  obtain ⟨q, hq, hr⟩ := ob hf
  obtain rfl := Option.some.inj hr
  exact c_X1_changeSetting gh a x1 x2 g.1 g.2.1 g.2.2.1 g.2.2.2.1 g.2.2.2.2.1 g.2.2.2.2.2.1 g.2.2.2.2.2.2.1 g.2.2.2.2.2.2.2.1 g.2.2.2.2.2.2.2.2.1 g.2.2.2.2.2.2.2.2.2.1 g.2.2.2.2.2.2.2.2.2.2.1 g.2.2.2.2.2.2.2.2.2.2.2.1 g.2.2.2.2.2.2.2.2.2.2.2.2.1 g.2.2.2.2.2.2.2.2.2.2.2.2.2.1 g.2.2.2.2.2.2.2.2.2.2.2.2.2.2.1 g.2.2.2.2.2.2.2.2.2.2.2.2.2.2.2.1 g.2.2.2.2.2.2.2.2.2.2.2.2.2.2.2.2.1 g.2.2.2.2.2.2.2.2.2.2.2.2.2.2.2.2.2.1 g.2.2.2.2.2.2.2.2.2.2.2.2.2.2.2.2.2.2.1 g.2.2.2.2.2.2.2.2.2.2.2.2.2.2.2.2.2.2.2.1 g.2.2.2.2.2.2.2.2.2.2.2.2.2.2.2.2.2.2.2.2.1 g.2.2.2.2.2.2.2.2.2.2.2.2.2.2.2.2.2.2.2.2.2.1 g.2.2.2.2.2.2.2.2.2.2.2.2.2.2.2.2.2.2.2.2.2.2.1 g.2.2.2.2.2.2.2.2.2.2.2.2.2.2.2.2.2.2.2.2.2.2.2.1 g.2.2.2.2.2.2.2.2.2.2.2.2.2.2.2.2.2.2.2.2.2.2.2.2.1 g.2.2.2.2.2.2.2.2.2.2.2.2.2.2.2.2.2.2.2.2.2.2.2.2.2.1 g.2.2.2.2.2.2.2.2.2.2.2.2.2.2.2.2.2.2.2.2.2.2.2.2.2.2.1 g.2.2.2.2.2.2.2.2.2.2.2.2.2.2.2.2.2.2.2.2.2.2.2.2.2.2.2.1 g.2.2.2.2.2.2.2.2.2.2.2.2.2.2.2.2.2.2.2.2.2.2.2.2.2.2.2.2.1 g.2.2.2.2.2.2.2.2.2.2.2.2.2.2.2.2.2.2.2.2.2.2.2.2.2.2.2.2.2 q hq
noncomputable def F_X1_timeOfBasket (g : Gr) : Option (Int32) := f_X1_timeOfBasket g.2.2.2.2.2.2.2.2.2.2.2.2.2.2.2.2.1 g.2.2.2.2.2.2.2.2.2.2.2.2.2.2.2.2.2.1 g.2.2.2.2.2.2.2.2.2.2.2.2.2.2.2.2.2.2.1 g.2.2.2.2.2.2.2.2.2.2.2.2.2.2.2.2.2.2.2.1 g.2.2.2.2.2.2.2.2.2.2.2.2.2.2.2.2.2.2.2.2.2.2.2.1
theorem C_X1_timeOfBasket (gh : Nat) (a : Nat → Nat) (g : Gr) (R : Int32) (hf : F_X1_timeOfBasket g = some R) : RdI l yX1_timeOfBasket wsX1_timeOfBasket rmX1_timeOfBasket D cI cC (w_gr cI cC gh a g) [.ref gh] R := c_X1_timeOfBasket gh a g.1 g.2.1 g.2.2.1 g.2.2.2.1 g.2.2.2.2.1 g.2.2.2.2.2.1 g.2.2.2.2.2.2.1 g.2.2.2.2.2.2.2.1 g.2.2.2.2.2.2.2.2.1 g.2.2.2.2.2.2.2.2.2.1 g.2.2.2.2.2.2.2.2.2.2.1 g.2.2.2.2.2.2.2.2.2.2.2.1 g.2.2.2.2.2.2.2.2.2.2.2.2.1 g.2.2.2.2.2.2.2.2.2.2.2.2.2.1 g.2.2.2.2.2.2.2.2.2.2.2.2.2.2.1 g.2.2.2.2.2.2.2.2.2.2.2.2.2.2.2.1 g.2.2.2.2.2.2.2.2.2.2.2.2.2.2.2.2.1 g.2.2.2.2.2.2.2.2.2.2.2.2.2.2.2.2.2.1 g.2.2.2.2.2.2.2.2.2.2.2.2.2.2.2.2.2.2.1 g.2.2.2.2.2.2.2.2.2.2.2.2.2.2.2.2.2.2.2.1 g.2.2.2.2.2.2.2.2.2.2.2.2.2.2.2.2.2.2.2.2.1 g.2.2.2.2.2.2.2.2.2.2.2.2.2.2.2.2.2.2.2.2.2.1 g.2.2.2.2.2.2.2.2.2.2.2.2.2.2.2.2.2.2.2.2.2.2.1 g.2.2.2.2.2.2.2.2.2.2.2.2.2.2.2.2.2.2.2.2.2.2.2.1 g.2.2.2.2.2.2.2.2.2.2.2.2.2.2.2.2.2.2.2.2.2.2.2.2.1 g.2.2.2.2.2.2.2.2.2.2.2.2.2.2.2.2.2.2.2.2.2.2.2.2.2.1 g.2.2.2.2.2.2.2.2.2.2.2.2.2.2.2.2.2.2.2.2.2.2.2.2.2.2.1 g.2.2.2.2.2.2.2.2.2.2.2.2.2.2.2.2.2.2.2.2.2.2.2.2.2.2.2.1 g.2.2.2.2.2.2.2.2.2.2.2.2.2.2.2.2.2.2.2.2.2.2.2.2.2.2.2.2.1 g.2.2.2.2.2.2.2.2.2.2.2.2.2.2.2.2.2.2.2.2.2.2.2.2.2.2.2.2.2 R hf
noncomputable def F_X1_copyFrom (g : Gr) (go : Gr) : Option (Gr) := (f_X1_copyFrom g.1 g.2.1 g.2.2.1 g.2.2.2.1 g.2.2.2.2.1 g.2.2.2.2.2.1 g.2.2.2.2.2.2.1 g.2.2.2.2.2.2.2.1 g.2.2.2.2.2.2.2.2.1 g.2.2.2.2.2.2.2.2.2.1 g.2.2.2.2.2.2.2.2.2.2.1 g.2.2.2.2.2.2.2.2.2.2.2.1 g.2.2.2.2.2.2.2.2.2.2.2.2.1 g.2.2.2.2.2.2.2.2.2.2.2.2.2.1 g.2.2.2.2.2.2.2.2.2.2.2.2.2.2.1 g.2.2.2.2.2.2.2.2.2.2.2.2.2.2.2.1 g.2.2.2.2.2.2.2.2.2.2.2.2.2.2.2.2.1 g.2.2.2.2.2.2.2.2.2.2.2.2.2.2.2.2.2.1 g.2.2.2.2.2.2.2.2.2.2.2.2.2.2.2.2.2.2.1 g.2.2.2.2.2.2.2.2.2.2.2.2.2.2.2.2.2.2.2.1 g.2.2.2.2.2.2.2.2.2.2.2.2.2.2.2.2.2.2.2.2.1 g.2.2.2.2.2.2.2.2.2.2.2.2.2.2.2.2.2.2.2.2.2.1 g.2.2.2.2.2.2.2.2.2.2.2.2.2.2.2.2.2.2.2.2.2.2.1 g.2.2.2.2.2.2.2.2.2.2.2.2.2.2.2.2.2.2.2.2.2.2.2.1 g.2.2.2.2.2.2.2.2.2.2.2.2.2.2.2.2.2.2.2.2.2.2.2.2.1 g.2.2.2.2.2.2.2.2.2.2.2.2.2.2.2.2.2.2.2.2.2.2.2.2.2.1 g.2.2.2.2.2.2.2.2.2.2.2.2.2.2.2.2.2.2.2.2.2.2.2.2.2.2.1 g.2.2.2.2.2.2.2.2.2.2.2.2.2.2.2.2.2.2.2.2.2.2.2.2.2.2.2.1 g.2.2.2.2.2.2.2.2.2.2.2.2.2.2.2.2.2.2.2.2.2.2.2.2.2.2.2.2.1 g.2.2.2.2.2.2.2.2.2.2.2.2.2.2.2.2.2.2.2.2.2.2.2.2.2.2.2.2.2 go.1 go.2.1 go.2.2.1 go.2.2.2.1 go.2.2.2.2.1 go.2.2.2.2.2.1 go.2.2.2.2.2.2.1 go.2.2.2.2.2.2.2.1 go.2.2.2.2.2.2.2.2.1 go.2.2.2.2.2.2.2.2.2.1 go.2.2.2.2.2.2.2.2.2.2.1 go.2.2.2.2.2.2.2.2.2.2.2.1 go.2.2.2.2.2.2.2.2.2.2.2.2.1 go.2.2.2.2.2.2.2.2.2.2.2.2.2.1 go.2.2.2.2.2.2.2.2.2.2.2.2.2.2.1 go.2.2.2.2.2.2.2.2.2.2.2.2.2.2.2.1 go.2.2.2.2.2.2.2.2.2.2.2.2.2.2.2.2.1 go.2.2.2.2.2.2.2.2.2.2.2.2.2.2.2.2.2.1 go.2.2.2.2.2.2.2.2.2.2.2.2.2.2.2.2.2.2.1 go.2.2.2.2.2.2.2.2.2.2.2.2.2.2.2.2.2.2.2.1 go.2.2.2.2.2.2.2.2.2.2.2.2.2.2.2.2.2.2.2.2.1 go.2.2.2.2.2.2.2.2.2.2.2.2.2.2.2.2.2.2.2.2.2.1 go.2.2.2.2.2.2.2.2.2.2.2.2.2.2.2.2.2.2.2.2.2.2.1 go.2.2.2.2.2.2.2.2.2.2.2.2.2.2.2.2.2.2.2.2.2.2.2.1 go.2.2.2.2.2.2.2.2.2.2.2.2.2.2.2.2.2.2.2.2.2.2.2.2.1 go.2.2.2.2.2.2.2.2.2.2.2.2.2.2.2.2.2.2.2.2.2.2.2.2.2.1 go.2.2.2.2.2.2.2.2.2.2.2.2.2.2.2.2.2.2.2.2.2.2.2.2.2.2.1 go.2.2.2.2.2.2.2.2.2.2.2.2.2.2.2.2.2.2.2.2.2.2.2.2.2.2.2.1 go.2.2.2.2.2.2.2.2.2.2.2.2.2.2.2.2.2.2.2.2.2.2.2.2.2.2.2.2.1 go.2.2.2.2.2.2.2.2.2.2.2.2.2.2.2.2.2.2.2.2.2.2.2.2.2.2.2.2.2).bind fun q => some (q.1, q.2.1, q.2.2.1, q.2.2.2.1, q.2.2.2.2.1, q.2.2.2.2.2.1, q.2.2.2.2.2.2.1, q.2.2.2.2.2.2.2.1, q.2.2.2.2.2.2.2.2.1, q.2.2.2.2.2.2.2.2.2.1, q.2.2.2.2.2.2.2.2.2.2.1, q.2.2.2.2.2.2.2.2.2.2.2.1, q.2.2.2.2.2.2.2.2.2.2.2.2.1, q.2.2.2.2.2.2.2.2.2.2.2.2.2.1, q.2.2.2.2.2.2.2.2.2.2.2.2.2.2.1, q.2.2.2.2.2.2.2.2.2.2.2.2.2.2.2.1, q.2.2.2.2.2.2.2.2.2.2.2.2.2.2.2.2.1, q.2.2.2.2.2.2.2.2.2.2.2.2.2.2.2.2.2.1, q.2.2.2.2.2.2.2.2.2.2.2.2.2.2.2.2.2.2.1, q.2.2.2.2.2.2.2.2.2.2.2.2.2.2.2.2.2.2.2.1, q.2.2.2.2.2.2.2.2.2.2.2.2.2.2.2.2.2.2.2.2.1, q.2.2.2.2.2.2.2.2.2.2.2.2.2.2.2.2.2.2.2.2.2.1, q.2.2.2.2.2.2.2.2.2.2.2.2.2.2.2.2.2.2.2.2.2.2.1, q.2.2.2.2.2.2.2.2.2.2.2.2.2.2.2.2.2.2.2.2.2.2.2.1, q.2.2.2.2.2.2.2.2.2.2.2.2.2.2.2.2.2.2.2.2.2.2.2.2.1, q.2.2.2.2.2.2.2.2.2.2.2.2.2.2.2.2.2.2.2.2.2.2.2.2.2.1, q.2.2.2.2.2.2.2.2.2.2.2.2.2.2.2.2.2.2.2.2.2.2.2.2.2.2.1, q.2.2.2.2.2.2.2.2.2.2.2.2.2.2.2.2.2.2.2.2.2.2.2.2.2.2.2.1, q.2.2.2.2.2.2.2.2.2.2.2.2.2.2.2.2.2.2.2.2.2.2.2.2.2.2.2.2.1, q.2.2.2.2.2.2.2.2.2.2.2.2.2.2.2.2.2.2.2.2.2.2.2.2.2.2.2.2.2)
theorem C_X1_copyFrom (gh : Nat) (a : Nat → Nat) (oh : Nat) (o : Nat → Nat) (g : Gr) (go : Gr) (R : Gr) (hf : F_X1_copyFrom g go = some R) : WrV l yX1_copyFrom wsX1_copyFrom rmX1_copyFrom D cI cC (w_gr cI cC gh a g ++ w_gr cI cC oh o go) (w_gr cI cC gh a R ++ w_gr cI cC oh o go) [.ref gh, .ref oh] := by
  obtain ⟨q, hq, hr⟩ := ob hf
  obtain rfl := Option.some.inj hr
  exact c_X1_copyFrom gh a oh o g.1 g.2.1 g.2.2.1 g.2.2.2.1 g.2.2.2.2.1 g.2.2.2.2.2.1 g.2.2.2.2.2.2.1 g.2.2.2.2.2.2.2.1 g.2.2.2.2.2.2.2.2.1 g.2.2.2.2.2.2.2.2.2.1 g.2.2.2.2.2.2.2.2.2.2.1 g.2.2.2.2.2.2.2.2.2.2.2.1 g.2.2.2.2.2.2.2.2.2.2.2.2.1 g.2.2.2.2.2.2.2.2.2.2.2.2.2.1 g.2.2.2.2.2.2.2.2.2.2.2.2.2.2.1 g.2.2.2.2.2.2.2.2.2.2.2.2.2.2.2.1 g.2.2.2.2.2.2.2.2.2.2.2.2.2.2.2.2.1 g.2.2.2.2.2.2.2.2.2.2.2.2.2.2.2.2.2.1 g.2.2.2.2.2.2.2.2.2.2.2.2.2.2.2.2.2.2.1 g.2.2.2.2.2.2.2.2.2.2.2.2.2.2.2.2.2.2.2.1 g.2.2.2.2.2.2.2.2.2.2.2.2.2.2.2.2.2.2.2.2.1 g.2.2.2.2.2.2.2.2.2.2.2.2.2.2.2.2.2.2.2.2.2.1 g.2.2.2.2.2.2.2.2.2.2.2.2.2.2.2.2.2.2.2.2.2.2.1 g.2.2.2.2.2.2.2.2.2.2.2.2.2.2.2.2.2.2.2.2.2.2.2.1 g.2.2.2.2.2.2.2.2.2.2.2.2.2.2.2.2.2.2.2.2.2.2.2.2.1 g.2.2.2.2.2.2.2.2.2.2.2.2.2.2.2.2.2.2.2.2.2.2.2.2.2.1 g.2.2.2.2.2.2.2.2.2.2.2.2.2.2.2.2.2.2.2.2.2.2.2.2.2.2.1 g.2.2.2.2.2.2.2.2.2.2.2.2.2.2.2.2.2.2.2.2.2.2.2.2.2.2.2.1 g.2.2.2.2.2.2.2.2.2.2.2.2.2.2.2.2.2.2.2.2.2.2.2.2.2.2.2.2.1 g.2.2.2.2.2.2.2.2.2.2.2.2.2.2.2.2.2.2.2.2.2.2.2.2.2.2.2.2.2 go.1 go.2.1 go.2.2.1 go.2.2.2.1 go.2.2.2.2.1 go.2.2.2.2.2.1 go.2.2.2.2.2.2.1 go.2.2.2.2.2.2.2.1 go.2.2.2.2.2.2.2.2.1 go.2.2.2.2.2.2.2.2.2.1 go.2.2.2.2.2.2.2.2.2.2.1 go.2.2.2.2.2.2.2.2.2.2.2.1 go.2.2.2.2.2.2.2.2.2.2.2.2.1 go.2.2.2.2.2.2.2.2.2.2.2.2.2.1 go.2.2.2.2.2.2.2.2.2.2.2.2.2.2.1 go.2.2.2.2.2.2.2.2.2.2.2.2.2.2.2.1 go.2.2.2.2.2.2.2.2.2.2.2.2.2.2.2.2.1 go.2.2.2.2.2.2.2.2.2.2.2.2.2.2.2.2.2.1 go.2.2.2.2.2.2.2.2.2.2.2.2.2.2.2.2.2.2.1 go.2.2.2.2.2.2.2.2.2.2.2.2.2.2.2.2.2.2.2.1 go.2.2.2.2.2.2.2.2.2.2.2.2.2.2.2.2.2.2.2.2.1 go.2.2.2.2.2.2.2.2.2.2.2.2.2.2.2.2.2.2.2.2.2.1 go.2.2.2.2.2.2.2.2.2.2.2.2.2.2.2.2.2.2.2.2.2.2.1 go.2.2.2.2.2.2.2.2.2.2.2.2.2.2.2.2.2.2.2.2.2.2.2.1 go.2.2.2.2.2.2.2.2.2.2.2.2.2.2.2.2.2.2.2.2.2.2.2.2.1 go.2.2.2.2.2.2.2.2.2.2.2.2.2.2.2.2.2.2.2.2.2.2.2.2.2.1 go.2.2.2.2.2.2.2.2.2.2.2.2.2.2.2.2.2.2.2.2.2.2.2.2.2.2.1 go.2.2.2.2.2.2.2.2.2.2.2.2.2.2.2.2.2.2.2.2.2.2.2.2.2.2.2.1 go.2.2.2.2.2.2.2.2.2.2.2.2.2.2.2.2.2.2.2.2.2.2.2.2.2.2.2.2.1 go.2.2.2.2.2.2.2.2.2.2.2.2.2.2.2.2.2.2.2.2.2.2.2.2.2.2.2.2.2 q hq
end
