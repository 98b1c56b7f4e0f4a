/-! the start: the classes, the tables, the two objects -/
theorem tb_mem {w : Cond} {i : Nat} (h : tables_1[i]? = some w) : w ∈ lw_tbl := List.mem_append_right _ (List.mem_of_getElem? h)
theorem nws_in : ∀ w ∈ nws, w ∈ lw_tbl := List.forall_mem_cons.mpr ⟨tb_mem (i := 50) (by decide +kernel), List.forall_mem_cons.mpr ⟨tb_mem (i := 51) (by decide +kernel), List.forall_mem_cons.mpr ⟨tb_mem (i := 53) (by decide +kernel), List.forall_mem_cons.mpr ⟨tb_mem (i := 54) (by decide +kernel), List.forall_mem_cons.mpr ⟨tb_mem (i := 76) (by decide +kernel), List.forall_mem_cons.mpr ⟨tb_mem (i := 78) (by decide +kernel), List.forall_mem_cons.mpr ⟨tb_mem (i := 100) (by decide +kernel), List.forall_mem_cons.mpr ⟨tb_mem (i := 102) (by decide +kernel), List.forall_mem_cons.mpr ⟨tb_mem (i := 111) (by decide +kernel), List.forall_mem_cons.mpr ⟨tb_mem (i := 115) (by decide +kernel), List.forall_mem_cons.mpr ⟨tb_mem (i := 117) (by decide +kernel), List.forall_mem_cons.mpr ⟨tb_mem (i := 119) (by decide +kernel), List.forall_mem_cons.mpr ⟨tb_mem (i := 121) (by decide +kernel), List.forall_mem_cons.mpr ⟨tb_mem (i := 160) (by decide +kernel), List.forall_mem_cons.mpr ⟨tb_mem (i := 180) (by decide +kernel), List.forall_mem_cons.mpr ⟨tb_mem (i := 186) (by decide +kernel), List.forall_mem_cons.mpr ⟨tb_mem (i := 468) (by decide +kernel), List.forall_mem_cons.mpr ⟨tb_mem (i := 470) (by decide +kernel), List.forall_mem_cons.mpr ⟨tb_mem (i := 22) (by decide +kernel), List.forall_mem_cons.mpr ⟨tb_mem (i := 28) (by decide +kernel), List.forall_mem_cons.mpr ⟨tb_mem (i := 34) (by decide +kernel), List.forall_mem_cons.mpr ⟨tb_mem (i := 71) (by decide +kernel), List.forall_mem_cons.mpr ⟨tb_mem (i := 94) (by decide +kernel), List.forall_mem_cons.mpr ⟨tb_mem (i := 174) (by decide +kernel), List.forall_mem_cons.mpr ⟨tb_mem (i := 213) (by decide +kernel), List.forall_mem_cons.mpr ⟨tb_mem (i := 268) (by decide +kernel), List.forall_mem_cons.mpr ⟨tb_mem (i := 337) (by decide +kernel), List.forall_mem_cons.mpr ⟨tb_mem (i := 363) (by decide +kernel), List.forall_mem_cons.mpr ⟨tb_mem (i := 403) (by decide +kernel), List.forall_mem_cons.mpr ⟨tb_mem (i := 410) (by decide +kernel), List.forall_mem_cons.mpr ⟨tb_mem (i := 413) (by decide +kernel), List.forall_mem_cons.mpr ⟨tb_mem (i := 503) (by decide +kernel), List.forall_mem_cons.mpr ⟨tb_mem (i := 566) (by decide +kernel), fun _ h => absurd h List.not_mem_nil⟩⟩⟩⟩⟩⟩⟩⟩⟩⟩⟩⟩⟩⟩⟩⟩⟩⟩⟩⟩⟩⟩⟩⟩⟩⟩⟩⟩⟩⟩⟩⟩⟩
set_option maxHeartbeats 4000000 in
theorem start_K {s : State} {b : Nat} (hts : ∀ w ∈ lw_tbl, w.before #[Value.ref b] s = true) : ∃ (D : va_G) (cI cC : ClassId), va_K D vwCl (tya cI cC) s ∧ NW s := by
  obtain ⟨c0, i0, k0⟩ := u_known (C := RX0) (T := TX0) (N := 4) (n := 4) hts inX0 (hts (.instantiable RX0 4) (tb_mem (i := 70) (by decide +kernel)))
  obtain ⟨c1, i1, k1⟩ := u_known (C := RX1) (T := TX1) (N := 13) (n := 13) hts inX1 (hts (.instantiable RX1 13) (tb_mem (i := 27) (by decide +kernel)))
  obtain ⟨c2, i2, k2⟩ := u_known (C := RX2) (T := TX2) (N := 5) (n := 5) hts inX2 (hts (.instantiable RX2 5) (tb_mem (i := 21) (by decide +kernel)))
  obtain ⟨c3, i3, k3⟩ := u_known (C := RX3) (T := TX3) (N := 1) (n := 1) hts inX3 (hts (.instantiable RX3 1) (tb_mem (i := 33) (by decide +kernel)))
  obtain ⟨c4, i4, k4⟩ := u_known (C := RX4) (T := TX4) (N := 10) (n := 10) hts inX4 (hts (.instantiable RX4 10) (tb_mem (i := 173) (by decide +kernel)))
  obtain ⟨c5, i5, k5⟩ := u_known (C := RX5) (T := TX5) (N := 4) (n := 4) hts inX5 (hts (.instantiable RX5 4) (tb_mem (i := 39) (by decide +kernel)))
  obtain ⟨c6, i6, k6⟩ := u_known (C := RX6) (T := TX6) (N := 3) (n := 3) hts inX6 (hts (.instantiable RX6 3) (tb_mem (i := 93) (by decide +kernel)))
  obtain ⟨c7, i7, k7⟩ := u_known (C := RX7) (T := TX7) (N := 4) (n := 4) hts inX7 (hts (.instantiable RX7 4) (tb_mem (i := 13) (by decide +kernel)))
  obtain ⟨c8, i8, k8⟩ := u_known (C := RX8) (T := TX8) (N := 15) (n := 15) hts inX8 (hts (.instantiable RX8 15) (tb_mem (i := 683) (by decide +kernel)))
  obtain ⟨cI, kI, compI, f1, f2, f3⟩ := Cond.arrayClass_spec (hts (.arrayClass .int) (tb_mem (i := 64) (by decide +kernel)))
  obtain ⟨cC, kC, compC, g1, g2, g3⟩ := Cond.arrayClass_spec (hts (.arrayClass .char) (tb_mem (i := 211) (by decide +kernel)))
  refine ⟨(fun k => match k with | 0 => c0 | 1 => c1 | 2 => c2 | 3 => c3 | 4 => c4 | 5 => c5 | 6 => c6 | 7 => c7 | _ => c8, fun k => match k with | 0 => i0 | 1 => i1 | 2 => i2 | 3 => i3 | 4 => i4 | 5 => i5 | 6 => i6 | 7 => i7 | _ => i8), cI, cC, ⟨?_, ?_⟩, fun w hw => va_Nw.of (nw_on (nws_ok w hw)) (hts w (nws_in w hw))⟩
  · intro c q hq
    match c, hq with
    | 0, hq => cases hq; exact k0
    | 1, hq => cases hq; exact k1
    | 2, hq => cases hq; exact k2
    | 3, hq => cases hq; exact k3
    | 4, hq => cases hq; exact k4
    | 5, hq => cases hq; exact k5
    | 6, hq => cases hq; exact k6
    | 7, hq => cases hq; exact k7
    | 8, hq => cases hq; exact k8
    | c + 9, hq => exact absurd hq (by rw [List.getElem?_eq_none (by show 9 ≤ c + 9; omega)]; exact fun z => by cases z)
  · intro k q hq
    match k, hq with
    | 0, hq => cases hq; exact ⟨fun n z => ⟨fun k h => (by cases h), kI, f2, compI, f3⟩, f1⟩
    | 1, hq => cases hq; exact ⟨fun n z => ⟨fun k h => (by cases h), kC, g2, compC, g3⟩, g1⟩
    | k + 2, hq => exact absurd hq (by rw [List.getElem?_eq_none (by show 2 ≤ k + 2; omega)]; exact fun z => by cases z)
set_option maxHeartbeats 4000000 in
theorem start_T {s : State} {b : Nat} (hts : ∀ w ∈ lw_tbl, w.before #[Value.ref b] s = true) (hgv : (Jvm.Cond.and given_1 narrow_1).before #[Value.ref b] s = true) : STX (fun q : Nat => s.heap.size ≤ q) s := by
  have hs := flat_of_before _ hgv
  have hA : ∀ a : Nat, a < s.heap.size → ¬ (fun q : Nat => s.heap.size ≤ q) a := fun a h => Nat.not_le.mpr h
  have hini := hts (.initialized "DriftGrinders") (tb_mem (i := 1) (by decide +kernel))
  have al := hs (Cond.arrayOf (.static "DriftGrinders" "SETTING_LEAST" "[I") .int) (by decide +kernel)
  have nl := va_eqt (hs (Cond.eq (.length (.static "DriftGrinders" "SETTING_LEAST" "[I")) (.int 6)) (by decide +kernel))
  have el0 := va_eqt (hs (Cond.eq (.elem (.static "DriftGrinders" "SETTING_LEAST" "[I") (.int 0)) (.int 100)) (by decide +kernel))
  have el1 := va_eqt (hs (Cond.eq (.elem (.static "DriftGrinders" "SETTING_LEAST" "[I") (.int 1)) (.int 0)) (by decide +kernel))
  have el2 := va_eqt (hs (Cond.eq (.elem (.static "DriftGrinders" "SETTING_LEAST" "[I") (.int 2)) (.int 0)) (by decide +kernel))
  have el3 := va_eqt (hs (Cond.eq (.elem (.static "DriftGrinders" "SETTING_LEAST" "[I") (.int 3)) (.int 30)) (by decide +kernel))
  have el4 := va_eqt (hs (Cond.eq (.elem (.static "DriftGrinders" "SETTING_LEAST" "[I") (.int 4)) (.int 30)) (by decide +kernel))
  have el5 := va_eqt (hs (Cond.eq (.elem (.static "DriftGrinders" "SETTING_LEAST" "[I") (.int 5)) (.int 0)) (by decide +kernel))
  obtain ⟨tl, ul, wl⟩ := va_Tof (tm := (.static "DriftGrinders" "SETTING_LEAST" "[I")) (ty := .int) (N := 6) (f := fun j => .int (tbL j)) (A := fun q : Nat => s.heap.size ≤ q) (by decide) al nl (fun j hj => by
    rcases six hj with rfl | rfl | rfl | rfl | rfl | rfl
    · exact el0
    · exact el1
    · exact el2
    · exact el3
    · exact el4
    · exact el5) hA
  have zl := va_Zof (C := "DriftGrinders") (n := "SETTING_LEAST") (d := "[I") (A := fun q : Nat => s.heap.size ≤ q) (hts (.laysStatic "DriftGrinders" "SETTING_LEAST" "[I") (tb_mem (i := 469) (by decide +kernel))) hini ul hA
  have am := hs (Cond.arrayOf (.static "DriftGrinders" "SETTING_MOST" "[I") .int) (by decide +kernel)
  have nm := va_eqt (hs (Cond.eq (.length (.static "DriftGrinders" "SETTING_MOST" "[I")) (.int 6)) (by decide +kernel))
  have em0 := va_eqt (hs (Cond.eq (.elem (.static "DriftGrinders" "SETTING_MOST" "[I") (.int 0)) (.int 600)) (by decide +kernel))
  have em1 := va_eqt (hs (Cond.eq (.elem (.static "DriftGrinders" "SETTING_MOST" "[I") (.int 1)) (.int 200)) (by decide +kernel))
  have em2 := va_eqt (hs (Cond.eq (.elem (.static "DriftGrinders" "SETTING_MOST" "[I") (.int 2)) (.int 100)) (by decide +kernel))
  have em3 := va_eqt (hs (Cond.eq (.elem (.static "DriftGrinders" "SETTING_MOST" "[I") (.int 3)) (.int 300)) (by decide +kernel))
  have em4 := va_eqt (hs (Cond.eq (.elem (.static "DriftGrinders" "SETTING_MOST" "[I") (.int 4)) (.int 300)) (by decide +kernel))
  have em5 := va_eqt (hs (Cond.eq (.elem (.static "DriftGrinders" "SETTING_MOST" "[I") (.int 5)) (.int 1)) (by decide +kernel))
  obtain ⟨tm, um, wm⟩ := va_Tof (tm := (.static "DriftGrinders" "SETTING_MOST" "[I")) (ty := .int) (N := 6) (f := fun j => .int (tbM j)) (A := fun q : Nat => s.heap.size ≤ q) (by decide) am nm (fun j hj => by
    rcases six hj with rfl | rfl | rfl | rfl | rfl | rfl
    · exact em0
    · exact em1
    · exact em2
    · exact em3
    · exact em4
    · exact em5) hA
  have zm := va_Zof (C := "DriftGrinders") (n := "SETTING_MOST") (d := "[I") (A := fun q : Nat => s.heap.size ≤ q) (hts (.laysStatic "DriftGrinders" "SETTING_MOST" "[I") (tb_mem (i := 471) (by decide +kernel))) hini um hA
  exact ⟨tl, tm, zl, wl, zm, wm⟩
/-! the two sides at the start -/
abbrev gr0 : Gr := ((fun _ => 0), (fun _ => 0), 0, 0, 30, 0, 0, 0, 30, 0, 0, 0, (fun _ => 0), (fun _ => 0), 0, 0, (fun _ => 0), (fun _ => 0), 0, 0, (fun _ => 0), 0, 0, st0, 0, 0, 0, 0, 0, 0)
def v00 : Nat → Nat := fun k => match k with
  | 0 => 280
  | 1 => 20
  | 2 => 40
  | 3 => 90
  | 4 => 120
  | _ => 0
def sp00 : Sp := ([], [], [], (30, 0, 0, 0), (30, 0, 0, 0), [], 0, v00, 0, 0, 0, 0, 0, 0)
theorem st00 : stR v00 st0 := fun k hk => by
  rcases six hk with rfl | rfl | rfl | rfl | rfl | rfl <;> rfl
theorem gr00 : GR sp00 gr0 := ⟨rowR_nil _ _, ⟨rfl, rfl, rfl, rfl⟩, ⟨rfl, rfl, rfl, rfl⟩, rowR_nil _ _, rowR_nil _ _, ⟨rfl, Nat.zero_le 12, fun k h => absurd h (Nat.not_lt_zero k), fun k h => absurd h (Nat.not_lt_zero k)⟩, rfl, st00, rfl, rfl, rfl, rfl, rfl, rfl⟩
theorem kk00 : KK sp00 0 := ⟨okR_nil, fun p hp => (by cases hp), Nat.zero_le 4000, Nat.zero_le 6, okR_nil, mkK_nil, Nat.zero_le 100, okR_nil, mkK_nil, Nat.zero_le 400, ⟨(by show 1 ≤ 30; decide), (by show 30 ≤ 60; decide), Nat.zero_le 300⟩, ⟨(by show 1 ≤ 30; decide), (by show 30 ≤ 60; decide), Nat.zero_le 300⟩, (by show stK v00; unfold stK v00; decide), Nat.zero_le 0⟩
theorem sm00 : stM v00 sM0 := fun k hk => by
  rcases six hk with rfl | rfl | rfl | rfl | rfl | rfl <;> rfl
theorem mr00 : MR sp00 sM0 := ⟨⟨rfl, fun k h => absurd h (Nat.not_lt_zero k)⟩, ⟨rfl, rfl, rfl, rfl⟩, ⟨rfl, rfl, rfl, rfl⟩, ⟨rfl, fun k h => absurd h (Nat.not_lt_zero k)⟩, ⟨rfl, fun k h => absurd h (Nat.not_lt_zero k)⟩, ⟨rfl, Nat.zero_le 12, fun k h => absurd h (Nat.not_lt_zero k), fun k h => absurd h (Nat.not_lt_zero k)⟩, rfl, sm00, rfl, rfl, rfl, rfl, rfl, rfl⟩
theorem sy00 (gl gs gt go : Gr) : SY 0 gr0 gl gs gt go 0 (fun _ => 0) 0 sM0 (fun _ => 0) (fun _ => 0) 0 0 0 := ⟨sp00, [], [], gr00, kk00, fun τ hτ => (by cases hτ), rfl, ⟨fun τ e => (by cases e), fun τ e => (by cases e), fun τ e => (by cases e), fun τ e => (by cases e)⟩, TX.nil _, TX.nil _, mr00, ⟨rfl, Nat.zero_le 4, fun j σ h => absurd h (by rw [List.reverse_nil, List.getElem?_nil]; exact fun z => by cases z)⟩, rfl⟩
theorem nl_C {W : va_W} {x : Nat × va_E} {n : Nat} (hn : W.length = n) : [n].map (fun i => (W ++ [x])[i]?) = [x].map some := by
  show [(W ++ [x])[n]?] = [some x]
  rw [List.getElem?_append_right (by omega), hn, Nat.sub_self]
  rfl
theorem nl_R {W : va_W} {x : Nat × va_E} {n : Nat} (hn : W.length = n) : (List.range n).map (fun i => (W ++ [x])[i]?) = W.map some := by
  subst hn
  refine ml_app _ ?_
  apply List.ext_getElem?
  intro k
  rw [List.getElem?_map, List.getElem?_map]
  rcases Nat.lt_or_ge k W.length with h | h
  · rw [List.getElem?_range h, List.getElem?_eq_getElem h]
    show some (W[k]?) = _
    rw [List.getElem?_eq_getElem h]
    rfl
  · rw [List.getElem?_eq_none (by simpa using h), List.getElem?_eq_none h]
    rfl
theorem pm_start {α : Type} (X M a b c d n s : List α) : ((X ++ a ++ b ++ c ++ d ++ n ++ s) ++ M).Perm (((X ++ M) ++ n ++ s) ++ (a ++ b ++ c ++ d)) := by
  simp only [List.append_assoc]
  refine List.Perm.append_left X ?_
  have h1 := List.perm_append_comm (l₁ := a ++ (b ++ (c ++ d))) (l₂ := n ++ (s ++ M))
  simp only [List.append_assoc] at h1
  refine h1.trans ?_
  have h2 := List.perm_append_comm_assoc (n ++ s) M (a ++ (b ++ (c ++ d)))
  simp only [List.append_assoc] at h2
  exact h2
set_option maxHeartbeats 8000000 in
set_option maxRecDepth 100000 in
theorem inv00 {D : va_G} {cI cC : ClassId} {s : State} {H : Heap} {locs : List Loc} {q0 q1 : Nat} {f g : Nat → Nat} (hP : va_P D vwCl (([(q0, .inr (7, [.ref (f 0), .ref (f 1), .ref (f 7), .ref (f 8)])), ((f 0), .inr (2, [.ref (f 3), .ref (f 4), .ref (f 5), .ref (f 6), .int 0])), ((f 1), .inr (4, [.ref (f 2), .int 0, .int 0, .int 0, .int 0, .int 0, .int 0, .int 0, .int 0, .int 0])), ((f 2), .inl (cC, 60, .inl (fun _ => 0)))] ++ w_gr cI cC (f 3) (fun i => f (16 + i)) gr0 ++ w_gr cI cC (f 4) (fun i => f (32 + i)) gr0 ++ w_gr cI cC (f 5) (fun i => f (48 + i)) gr0 ++ w_gr cI cC (f 6) (fun i => f (64 + i)) gr0 ++ w_gr cI cC (f 7) (fun i => f (80 + i)) gr0 ++ w_gr cI cC (f 8) (fun i => f (96 + i)) gr0) ++ w_model cI cC (fun k => match k with | 0 => q1 | k + 1 => g k) sM0 (fun _ => 0) (fun _ => 0) (fun _ => 0) (fun _ => 0) (fun _ => 0) 0 0 0 0 0 0 0 0 0) H) (hD : va_D (fun q : Nat => s.heap.size ≤ q) (([(q0, .inr (7, [.ref (f 0), .ref (f 1), .ref (f 7), .ref (f 8)])), ((f 0), .inr (2, [.ref (f 3), .ref (f 4), .ref (f 5), .ref (f 6), .int 0])), ((f 1), .inr (4, [.ref (f 2), .int 0, .int 0, .int 0, .int 0, .int 0, .int 0, .int 0, .int 0, .int 0])), ((f 2), .inl (cC, 60, .inl (fun _ => 0)))] ++ w_gr cI cC (f 3) (fun i => f (16 + i)) gr0 ++ w_gr cI cC (f 4) (fun i => f (32 + i)) gr0 ++ w_gr cI cC (f 5) (fun i => f (48 + i)) gr0 ++ w_gr cI cC (f 6) (fun i => f (64 + i)) gr0 ++ w_gr cI cC (f 7) (fun i => f (80 + i)) gr0 ++ w_gr cI cC (f 8) (fun i => f (96 + i)) gr0) ++ w_model cI cC (fun k => match k with | 0 => q1 | k + 1 => g k) sM0 (fun _ => 0) (fun _ => 0) (fun _ => 0) (fun _ => 0) (fun _ => 0) 0 0 0 0 0 0 0 0 0)) (hS : va_S (fun q : Nat => s.heap.size ≤ q) s.heap H locs) : INV D cI cC s 0 q0 (f 0) (f 1) (f 2) (fun k => match k with | 0 => q1 | k + 1 => g k) H locs := by
  have hP2 : va_P D vwCl ((hd_law cI cC q0 (f 0) (f 1) (f 2) (fun k => match k with | 0 => q1 | k + 1 => g k) (f 7) (f 8) (f 3) (f 4) (f 5) (f 6) 0 (fun _ => 0) 0 0 0 0 0 0 0 0 0 sM0 (fun _ => 0) (fun _ => 0) (fun _ => 0) (fun _ => 0) (fun _ => 0) 0 0 0 0 0 0 0 0 0 ++ w_gr cI cC (f 7) (fun i => f (80 + i)) gr0 ++ w_gr cI cC (f 8) (fun i => f (96 + i)) gr0) ++ (w_gr cI cC (f 3) (fun i => f (16 + i)) gr0 ++ w_gr cI cC (f 4) (fun i => f (32 + i)) gr0 ++ w_gr cI cC (f 5) (fun i => f (48 + i)) gr0 ++ w_gr cI cC (f 6) (fun i => f (64 + i)) gr0)) H := vp_perm (pm_start _ _ _ _ _ _ _ _) hP
  have hD2 : va_D (fun q : Nat => s.heap.size ≤ q) ((hd_law cI cC q0 (f 0) (f 1) (f 2) (fun k => match k with | 0 => q1 | k + 1 => g k) (f 7) (f 8) (f 3) (f 4) (f 5) (f 6) 0 (fun _ => 0) 0 0 0 0 0 0 0 0 0 sM0 (fun _ => 0) (fun _ => 0) (fun _ => 0) (fun _ => 0) (fun _ => 0) 0 0 0 0 0 0 0 0 0 ++ w_gr cI cC (f 7) (fun i => f (80 + i)) gr0 ++ w_gr cI cC (f 8) (fun i => f (96 + i)) gr0) ++ (w_gr cI cC (f 3) (fun i => f (16 + i)) gr0 ++ w_gr cI cC (f 4) (fun i => f (32 + i)) gr0 ++ w_gr cI cC (f 5) (fun i => f (48 + i)) gr0 ++ w_gr cI cC (f 6) (fun i => f (64 + i)) gr0)) := vd_perm (pm_start _ _ _ _ _ _ _ _) hD
  exact ⟨(fun i => f (80 + i)), (fun i => f (96 + i)), (fun i => f (16 + i)), (fun i => f (32 + i)), (fun i => f (48 + i)), (fun i => f (64 + i)), (f 7), (f 8), (f 3), (f 4), (f 5), (f 6), 0, (fun _ => 0), 0, 0, 0, 0, 0, 0, 0, 0, 0, sM0, (fun _ => 0), (fun _ => 0), (fun _ => 0), (fun _ => 0), (fun _ => 0), 0, 0, 0, 0, 0, 0, 0, 0, 0, gr0, gr0, gr0, gr0, gr0, gr0, sy00 _ _ _ _, hP2, hD2, hS⟩
set_option maxHeartbeats 8000000 in
set_option maxRecDepth 100000 in
theorem whole_start {p : Program} {e : Env} {s : State} {m : MethodId} {below : List Frame} {meth : Method} {c : Code} (l : Launch) (hflags : l.flags = flags0) {b L : Nat} {xs : Nat → Int32} (hL : L ≤ 2048) (C0 : lw_At p s m meth c b L xs) : W p l e room_1 s m #[Value.ref b] below meth c s.heap [] 0 0 (lw_Z below #[Value.ref b] s) (entryFrame m ([Value.ref b] : List Value).toArray 4) := by
  obtain ⟨hx, hb, hr, hml, hown, hts, hX, hbl, hlocks, hgv⟩ := id C0
  have hA : ∀ q : Nat, s.heap.size ≤ q → (fun q : Nat => s.heap.size ≤ q) q := fun _ h => h
  obtain ⟨D, cI, cC, hK, hN⟩ := start_K hts
  have hT := start_T hts hgv
  have hts' : ∀ w ∈ wsL_law, w.before #[Value.ref b] s = true := fun w h => hts w (wsL_law_in w h)
  have hown' : s.vm.findClass RL = some m.cls := hown
  have hF : FX p m c cL_law 4 s #[Value.ref b] wsL_law RL D cI cC := ⟨⟨hx, hb, hml, hown', hts'⟩, hK, hN⟩
  have hLX : LX p m c s b L xs D cI cC := ⟨hF, hX, hbl, hL, hT⟩
  have k0 := hts (.classLink RL 7 RX7) (tb_mem (i := 12) (by decide +kernel))
  have k1 := hts (.instantiable RX7 4) (tb_mem (i := 13) (by decide +kernel))
  have k2 := hts (.initialized RX7) (tb_mem (i := 1) (by decide +kernel))
  have k3 := hts (.methodLink RL 9 yX7_init) (tb_mem (i := 14) (by decide +kernel))
  have k4 := hts (.instanceMethod yX7_init) (tb_mem (i := 15) (by decide +kernel))
  have j0 := hts (.classLink RL 10 RX8) (tb_mem (i := 682) (by decide +kernel))
  have j1 := hts (.instantiable RX8 15) (tb_mem (i := 683) (by decide +kernel))
  have j2 := hts (.initialized RX8) (tb_mem (i := 10) (by decide +kernel))
  have j3 := hts (.methodLink RL 12 yX8_init) (tb_mem (i := 684) (by decide +kernel))
  have j4 := hts (.instanceMethod yX8_init) (tb_mem (i := 685) (by decide +kernel))
  have hS : va_S (fun q : Nat => s.heap.size ≤ q) s.heap s.heap [] := va_S.rf
  have hP : va_P D vwCl [] s.heap := fun k q h => by simp at h
  have hD : va_D (fun q : Nat => s.heap.size ≤ q) [] := ⟨fun i j p q h => by simp at h, fun k q h => by simp at h⟩
  have hl := lv_entry ([.ref b]) (n := 4) (Nat.le_of_ble_eq_true rfl)
  rw [lg_entry_eq]
  generalize (lg_sl ([.ref b]) ++ List.replicate (4 - (lg_sl ([.ref b])).length) Slot.unset).toArray = ls at hl ⊢
  have hl : lv_has ls 4 [(0, .ref b)] := hl
  refine va_new (ci := 7) (fs := [.null, .null, .null, .null]) (C := RX7) (T := TX7) (N := 4) hx hb hts' inlX7 tyX7 tyX7_ok hown' k0 k1 k2 hK hP hD hS hA rfl (fun j hj => by rcases (show j = 0 ∨ j = 1 ∨ j = 2 ∨ j = 3 by omega) with rfl | rfl | rfl | rfl <;> rfl) (Nat.le_of_ble_eq_true rfl) (Nat.le_of_ble_eq_true rfl) dL_law_0 (fun q0 H hP hD hS => ?_)
  have hP : va_P D vwCl [(q0, .inr (7, [.null, .null, .null, .null]))] H := hP
  have hD : va_D (fun q : Nat => s.heap.size ≤ q) [(q0, .inr (7, [.null, .null, .null, .null]))] := hD
  refine W.widen (k := 1) (n := 4) (Nat.le_of_ble_eq_true rfl) (Nat.le_of_ble_eq_true rfl) ?_
  refine lv_dup hx hb dL_law_3 rfl ?_
  refine cl_I (wr := []) (As := []) (rest := [.ref q0]) hF hP hD hS hA (c_X7_init q0) (cwI 0 hts' gL_law_X7_init rfl rfl rfl k2 k3 k4 rfl (by decide +kernel) ⟨(Nat.le_of_ble_eq_true rfl), (Nat.le_of_ble_eq_true rfl)⟩) [0] [] rfl rfl (by decide +kernel) (by decide +kernel) (by decide +kernel) rfl rfl hl.1 (Nat.le_of_ble_eq_true rfl) dL_law_4 ⟨(Nat.le_of_ble_eq_true rfl), (Nat.le_of_ble_eq_true rfl)⟩ (fun f H locs hP hD hS => ?_)
  have hP : va_P D vwCl ([(q0, .inr (7, [.ref (f 0), .ref (f 1), .ref (f 7), .ref (f 8)])), ((f 0), .inr (2, [.ref (f 3), .ref (f 4), .ref (f 5), .ref (f 6), .int 0])), ((f 1), .inr (4, [.ref (f 2), .int 0, .int 0, .int 0, .int 0, .int 0, .int 0, .int 0, .int 0, .int 0])), ((f 2), .inl (cC, 60, .inl (fun _ => 0)))] ++ w_gr cI cC (f 3) (fun i => f (16 + i)) gr0 ++ w_gr cI cC (f 4) (fun i => f (32 + i)) gr0 ++ w_gr cI cC (f 5) (fun i => f (48 + i)) gr0 ++ w_gr cI cC (f 6) (fun i => f (64 + i)) gr0 ++ w_gr cI cC (f 7) (fun i => f (80 + i)) gr0 ++ w_gr cI cC (f 8) (fun i => f (96 + i)) gr0) H := hP
  have hD : va_D (fun q : Nat => s.heap.size ≤ q) ([(q0, .inr (7, [.ref (f 0), .ref (f 1), .ref (f 7), .ref (f 8)])), ((f 0), .inr (2, [.ref (f 3), .ref (f 4), .ref (f 5), .ref (f 6), .int 0])), ((f 1), .inr (4, [.ref (f 2), .int 0, .int 0, .int 0, .int 0, .int 0, .int 0, .int 0, .int 0, .int 0])), ((f 2), .inl (cC, 60, .inl (fun _ => 0)))] ++ w_gr cI cC (f 3) (fun i => f (16 + i)) gr0 ++ w_gr cI cC (f 4) (fun i => f (32 + i)) gr0 ++ w_gr cI cC (f 5) (fun i => f (48 + i)) gr0 ++ w_gr cI cC (f 6) (fun i => f (64 + i)) gr0 ++ w_gr cI cC (f 7) (fun i => f (80 + i)) gr0 ++ w_gr cI cC (f 8) (fun i => f (96 + i)) gr0) := hD
  have hlen : (([(q0, .inr (7, [.ref (f 0), .ref (f 1), .ref (f 7), .ref (f 8)])), ((f 0), .inr (2, [.ref (f 3), .ref (f 4), .ref (f 5), .ref (f 6), .int 0])), ((f 1), .inr (4, [.ref (f 2), .int 0, .int 0, .int 0, .int 0, .int 0, .int 0, .int 0, .int 0, .int 0])), ((f 2), .inl (cC, 60, .inl (fun _ => 0)))] ++ w_gr cI cC (f 3) (fun i => f (16 + i)) gr0 ++ w_gr cI cC (f 4) (fun i => f (32 + i)) gr0 ++ w_gr cI cC (f 5) (fun i => f (48 + i)) gr0 ++ w_gr cI cC (f 6) (fun i => f (64 + i)) gr0 ++ w_gr cI cC (f 7) (fun i => f (80 + i)) gr0 ++ w_gr cI cC (f 8) (fun i => f (96 + i)) gr0) : va_W).length = 100 := rfl
  generalize hW : (([(q0, .inr (7, [.ref (f 0), .ref (f 1), .ref (f 7), .ref (f 8)])), ((f 0), .inr (2, [.ref (f 3), .ref (f 4), .ref (f 5), .ref (f 6), .int 0])), ((f 1), .inr (4, [.ref (f 2), .int 0, .int 0, .int 0, .int 0, .int 0, .int 0, .int 0, .int 0, .int 0])), ((f 2), .inl (cC, 60, .inl (fun _ => 0)))] ++ w_gr cI cC (f 3) (fun i => f (16 + i)) gr0 ++ w_gr cI cC (f 4) (fun i => f (32 + i)) gr0 ++ w_gr cI cC (f 5) (fun i => f (48 + i)) gr0 ++ w_gr cI cC (f 6) (fun i => f (64 + i)) gr0 ++ w_gr cI cC (f 7) (fun i => f (80 + i)) gr0 ++ w_gr cI cC (f 8) (fun i => f (96 + i)) gr0) : va_W) = W1 at hP hD hlen
  refine W.widen (k := 100) (n := 7057) (Nat.le_of_ble_eq_true rfl) (Nat.le_of_ble_eq_true rfl) ?_
  refine lv_astore_n (lv' := [(1, .ref q0), (0, .ref b)]) hx hb dL_law_7 rfl hl (by decide) rfl (fun ls hl => ?_)
  refine va_new (ci := 8) (fs := [.null, .null, .null, .null, .int 0, .int 0, .null, .int 0, .int 0, .int 0, .int 0, .int 0, .int 0, .int 0, .null]) (C := RX8) (T := TX8) (N := 15) hx hb hts' inlX8 tyX8 tyX8_ok hown' j0 j1 j2 hK hP hD hS hA rfl (fun j hj => by rcases (show j = 0 ∨ j = 1 ∨ j = 2 ∨ j = 3 ∨ j = 4 ∨ j = 5 ∨ j = 6 ∨ j = 7 ∨ j = 8 ∨ j = 9 ∨ j = 10 ∨ j = 11 ∨ j = 12 ∨ j = 13 ∨ j = 14 by omega) with rfl | rfl | rfl | rfl | rfl | rfl | rfl | rfl | rfl | rfl | rfl | rfl | rfl | rfl | rfl <;> rfl) (Nat.le_of_ble_eq_true rfl) (Nat.le_of_ble_eq_true rfl) dL_law_8 (fun q1 H hP hD hS => ?_)
  refine W.widen (k := 101) (n := 7072) (Nat.le_of_ble_eq_true rfl) (Nat.le_of_ble_eq_true rfl) ?_
  refine lv_dup hx hb dL_law_11 rfl ?_
  refine cl_I (wr := W1) (As := []) (rest := [.ref q1]) hF hP hD hS hA (c_X8_init q1) (cwI 0 hts' gL_law_X8_init rfl rfl rfl j2 j3 j4 rfl (by decide +kernel) ⟨(Nat.le_of_ble_eq_true rfl), (Nat.le_of_ble_eq_true rfl)⟩) [100] (List.range 100) (nl_C hlen) (nl_R hlen) (by decide +kernel) (by decide +kernel) (fun i hi => by rw [List.mem_range] at hi; rw [List.mem_singleton]; omega) rfl rfl hl.1 (Nat.le_of_ble_eq_true rfl) dL_law_12 ⟨(Nat.le_of_ble_eq_true rfl), (Nat.le_of_ble_eq_true rfl)⟩ (fun g H locs hP hD hS => ?_)
  subst hW
  have hI := inv00 hP hD hS
  refine W.widen (k := 600000) (n := 7302250) (Nat.le_of_ble_eq_true rfl) (Nat.le_of_ble_eq_true rfl) ?_
  refine lv_astore_n (lv' := [(2, .ref q1), (1, .ref q0), (0, .ref b)]) hx hb dL_law_15 rfl hl (by decide) rfl (fun ls hl => ?_)
  refine lv_iconst (v := nI 0) hx hb dL_law_16 (by decide) ?_
  refine lv_istore_n (lv' := [(3, .int (nI 0)), (2, .ref q1), (1, .ref q0), (0, .ref b)]) hx hb dL_law_17 rfl hl (by decide) rfl (fun ls hl => ?_)
  exact law_loop hLX hr hlocks 513 0 H locs ls rfl hI (lv_sub hl [0, 3, 2, 1] rfl)
-- ===== YOUR PART ENDS =====
set_option maxHeartbeats 4000000 in
theorem lw_walk (l : Launch) (hflags : l.flags = flags0) (b : Addr) (xs : List Int32) : MetFree l x (headSpec (Jvm.Cond.code x code maxLocals ret :: tables_1) room_1) (lw_P b xs) (fun _ _ _ _ _ => True) lw_Q := by
  refine MetFree.of_bodyS (code := code) (maxLocals := maxLocals) (ret := ret) (by decide) ?_ ?_
  · intro args s m h hn
    obtain ⟨meth, c, h1, h2, h3, h4, h5, h6, -, -⟩ := Cond.code_spec hn (atoms_spec (ws := Jvm.Cond.code x code maxLocals ret :: tables_1) h _ List.mem_cons_self)
    exact ⟨meth, c, h1, h2, h3, h4, h5, h6⟩
  · intro p e s m args below meth c s₁ B hml0 hP _
    obtain ⟨rfl, hx, hbd, hgv⟩ := hP
    obtain ⟨scr, harrAt, hlist, hof, hsmall⟩ := hx
    obtain ⟨hcb, hkn, -, -⟩ := State.arrayAt?_spec harrAt
    have hown : s.vm.findClass R_law = some m.cls := findClass_of_methodNamed B.named
    have hts0 : ∀ c ∈ (Jvm.Cond.code x code maxLocals ret :: tables_1), c.before #[Value.ref b] s = true := atoms_spec (ws := Jvm.Cond.code x code maxLocals ret :: tables_1) B.pre
    have hts : ∀ w ∈ lw_tbl, w.before #[Value.ref b] s = true := k2_hts_sels lw_privs (fun w hw => hts0 w (List.mem_cons_of_mem _ hw)) lw_privs_ok
    have hml : c.maxLocals = 4 := B.maxLocals_eq (hts0 _ List.mem_cons_self)
    have X₀ : Stand p l e room_1 s m #[Value.ref b] below meth c s₁ [] 0 0 := Stand.of_body B
    have hh0 : s₁.heap = s.heap := by rw [B.state]; rfl
    have hsz : scr.slots.size = xs.length := by rw [← Array.length_toList, hlist, List.length_map]
    have hval : ∀ j : Nat, j < xs.length → scr.slots[j]? = some (.int (xs.getD j 0)) := fun j hj => by
      rw [← Array.getElem?_toList, hlist]
      simp [hj]
    have hbl : b < s.heap.size := (Array.getElem?_eq_some_iff.mp hcb).1
    have hX : va_X b xs.length (fun j => xs.getD j 0) s s.heap := ⟨scr, hcb, hof, hkn, hsz, hval⟩
    have K : W p l e room_1 s m #[Value.ref b] below meth c s₁.heap [] 0 0 (lw_Z below #[Value.ref b] s) (entryFrame m ([Value.ref b] : List Value).toArray 4) := by
      rw [hh0]
      exact whole_start l hflags hbd ⟨B.exec, B.bytes, B.returns, hml, hown, hts, hX, hbl, B.notSynchronized, hgv⟩
    obtain ⟨t, a1, o, b1, b2, b3⟩ := K s₁ rfl X₀
    exact ⟨t, o, a1, b1, b2, b3⟩
theorem lw_pre_spec {args : Array Value} {s : State} (h : (Jvm.Cond.and given_1 narrow_1).before args s = true) (hr : rest_1_c.before args s = true) : ∃ (b : Addr) (xs : List Int32), lw_P b xs args s := by
  have hs := flat_of_before _ h
  have hq := flat_of_before _ hr
  have hc : (Cond.count 1).before args s = true := hs _ (by decide +kernel)
  have harr : (Cond.arrayOf (.arg 0) .int).before args s = true := hs _ (by decide +kernel)
  have hle : (Cond.le (.length (.arg 0)) (.int 2048)).before args s = true := hs _ (by decide +kernel)
  have hlen : (Cond.isInt (.length (.arg 0))).before args s = true := hq _ (by decide +kernel)
  have hall : (Cond.all (.arg 0) (.isInt (.elem (.arg 0) (.index 0)))).before args s = true := hq _ (by decide +kernel)
  obtain ⟨b, xs, hb, hx⟩ := State.ints_of_pre rfl harr hlen hall
  have hsm : xs.length < 2 ^ 31 := hx.choose_spec.2.2.2
  have hev : (Term.length (.arg 0)).eval args s none [] s = some (.int xs.length.toInt32) := hx.length_eval hb
  have hv := Cond.le_ints hev (show (Term.int 2048).eval args s none [] s = some (.int 2048) from rfl)
  have hd : xs.length.toInt32 ≤ 2048 := by
    simpa [Cond.before, Cond.holds, hv] using hle
  have hN : xs.length ≤ 2048 := (Int32.ofNat_le_ofNat hsm (by decide)).mp (show Int32.ofNat xs.length ≤ Int32.ofNat 2048 from hd)
  exact ⟨b, xs, Cond.one_arg hc (show args[0]? = some (.ref b) from hb), hx, hN, h⟩
theorem lw_comes (l : Launch) (hflags : l.flags = flags0) : Comes l x (Jvm.Cond.code x code maxLocals ret :: tables_1) room_1 (fun tb e args s => Calls_1 tb e args s ∧ rest_1 tb e args s ∧ Pre_1 tb e args s)
    (fun _ _ args s o t => lw_Q args s o t) := by
  intro p e ha hc hk s m args below hf hfit hheap happ hpre
  obtain ⟨b, xs, hP⟩ := lw_pre_spec hpre.2.2 hpre.2.1
  obtain ⟨k, o, h1, h2, h3, hQ⟩ := lw_walk l hflags b xs p e ha hc hk s m args below hf ((Spec.applies_iff_loose hf).mp happ).1 hP trivial
  exact ⟨k, o, h1, h2, h3, hQ⟩
theorem lw_frame {s t : State} {o : Outcome} {args : Array Value} (h : Framed s o t [] 600000 7302250) :
    Framed s o t (fieldLocs frame_1_writes args s ++ arrayLocs frame_1_arrays args s ++ staticLocs frame_1_statics s) 600000 7302250 := h
theorem lw_limb (L : Cond) (hL : ∀ (args : Array Value) (s t : State), L.after args s (.returned (some (.int 1))) t = true) :
    ArmFor flags0 classFile x code maxLocals ret World_1 tables_1 room_1 Calls_1 rest_1 Pre_1
      (fun tb e a s o t => postC L tb e a s o t ∧ Framed s o t (fieldLocs frame_1_writes a s ++ arrayLocs frame_1_arrays a s ++ staticLocs frame_1_statics s) 600000 7302250) := by
  intro l hflags _ _ p e ha hc hk s m args below hf hfit hheap happ hpre
  obtain ⟨k, o, h1, h2, h3, rfl, hF⟩ := lw_comes l hflags p e ha hc hk s m args below hf hfit hheap happ hpre
  exact ⟨k, _, h1, h2, h3, hL args s _, lw_frame hF⟩
theorem i_vc : Claimed_1_1 ∧ Claimed_1_2 := ⟨lw_limb limb_1_1 (fun args s t => by simp [limb_1_1, Cond.after, Cond.holds, Cond.value]), lw_limb limb_1_2 (fun args s t => Cond.after_iff.mpr (by
  first | (rw [show limb_1_2 = Cond.eq .result (.int 1) from rfl, Cond.eq_ints (x := 1) (y := 1) rfl rfl]; simp; done) | (simp [limb_1_2, Cond.value, Term.eval]; done)))⟩

