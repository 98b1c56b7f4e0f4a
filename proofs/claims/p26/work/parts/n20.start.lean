/-! the start: the classes, the tables, the two objects -/
theorem tb_mem {w : Cond} {i : Nat} (h : tables_1[i]? = some w) : w ∈ lw_tbl := List.mem_append_right _ (List.mem_of_getElem? h)
theorem nws_in : ∀ w ∈ nws, w ∈ lw_tbl := List.forall_mem_cons.mpr ⟨tb_mem (i := 49) (by decide +kernel), List.forall_mem_cons.mpr ⟨tb_mem (i := 50) (by decide +kernel), List.forall_mem_cons.mpr ⟨tb_mem (i := 52) (by decide +kernel), List.forall_mem_cons.mpr ⟨tb_mem (i := 53) (by decide +kernel), List.forall_mem_cons.mpr ⟨tb_mem (i := 75) (by decide +kernel), List.forall_mem_cons.mpr ⟨tb_mem (i := 77) (by decide +kernel), List.forall_mem_cons.mpr ⟨tb_mem (i := 99) (by decide +kernel), List.forall_mem_cons.mpr ⟨tb_mem (i := 101) (by decide +kernel), List.forall_mem_cons.mpr ⟨tb_mem (i := 110) (by decide +kernel), List.forall_mem_cons.mpr ⟨tb_mem (i := 114) (by decide +kernel), List.forall_mem_cons.mpr ⟨tb_mem (i := 116) (by decide +kernel), List.forall_mem_cons.mpr ⟨tb_mem (i := 118) (by decide +kernel), List.forall_mem_cons.mpr ⟨tb_mem (i := 120) (by decide +kernel), List.forall_mem_cons.mpr ⟨tb_mem (i := 159) (by decide +kernel), List.forall_mem_cons.mpr ⟨tb_mem (i := 178) (by decide +kernel), List.forall_mem_cons.mpr ⟨tb_mem (i := 543) (by decide +kernel), List.forall_mem_cons.mpr ⟨tb_mem (i := 545) (by decide +kernel), List.forall_mem_cons.mpr ⟨tb_mem (i := 21) (by decide +kernel), List.forall_mem_cons.mpr ⟨tb_mem (i := 27) (by decide +kernel), List.forall_mem_cons.mpr ⟨tb_mem (i := 33) (by decide +kernel), List.forall_mem_cons.mpr ⟨tb_mem (i := 70) (by decide +kernel), List.forall_mem_cons.mpr ⟨tb_mem (i := 93) (by decide +kernel), List.forall_mem_cons.mpr ⟨tb_mem (i := 173) (by decide +kernel), List.forall_mem_cons.mpr ⟨tb_mem (i := 202) (by decide +kernel), List.forall_mem_cons.mpr ⟨tb_mem (i := 258) (by decide +kernel), List.forall_mem_cons.mpr ⟨tb_mem (i := 261) (by decide +kernel), List.forall_mem_cons.mpr ⟨tb_mem (i := 264) (by decide +kernel), List.forall_mem_cons.mpr ⟨tb_mem (i := 275) (by decide +kernel), List.forall_mem_cons.mpr ⟨tb_mem (i := 390) (by decide +kernel), List.forall_mem_cons.mpr ⟨tb_mem (i := 443) (by decide +kernel), List.forall_mem_cons.mpr ⟨tb_mem (i := 484) (by decide +kernel), fun _ h => absurd h List.not_mem_nil⟩⟩⟩⟩⟩⟩⟩⟩⟩⟩⟩⟩⟩⟩⟩⟩⟩⟩⟩⟩⟩⟩⟩⟩⟩⟩⟩⟩⟩⟩⟩
set_option maxHeartbeats 4000000 in
theorem start_K {s : State} {b : Nat} (hts : ∀ w ∈ lw_tbl, w.before #[Value.ref b] s = true) : ∃ (D : va_G) (cI cC : ClassId), va_K D vwCl (tya cI cC) s ∧ NW s := by
  obtain ⟨c0, i0, k0⟩ := u_known (C := RX0) (T := TX0) (N := 4) (n := 4) hts inX0 (hts (.instantiable RX0 4) (tb_mem (i := 69) (by decide +kernel)))
  obtain ⟨c1, i1, k1⟩ := u_known (C := RX1) (T := TX1) (N := 13) (n := 13) hts inX1 (hts (.instantiable RX1 13) (tb_mem (i := 26) (by decide +kernel)))
  obtain ⟨c2, i2, k2⟩ := u_known (C := RX2) (T := TX2) (N := 5) (n := 5) hts inX2 (hts (.instantiable RX2 5) (tb_mem (i := 20) (by decide +kernel)))
  obtain ⟨c3, i3, k3⟩ := u_known (C := RX3) (T := TX3) (N := 1) (n := 1) hts inX3 (hts (.instantiable RX3 1) (tb_mem (i := 32) (by decide +kernel)))
  obtain ⟨c4, i4, k4⟩ := u_known (C := RX4) (T := TX4) (N := 10) (n := 10) hts inX4 (hts (.instantiable RX4 10) (tb_mem (i := 172) (by decide +kernel)))
  obtain ⟨c5, i5, k5⟩ := u_known (C := RX5) (T := TX5) (N := 4) (n := 4) hts inX5 (hts (.instantiable RX5 4) (tb_mem (i := 38) (by decide +kernel)))
  obtain ⟨c6, i6, k6⟩ := u_known (C := RX6) (T := TX6) (N := 3) (n := 3) hts inX6 (hts (.instantiable RX6 3) (tb_mem (i := 92) (by decide +kernel)))
  obtain ⟨c7, i7, k7⟩ := u_known (C := RX7) (T := TX7) (N := 4) (n := 4) hts inX7 (hts (.instantiable RX7 4) (tb_mem (i := 12) (by decide +kernel)))
  obtain ⟨cI, kI, compI, f1, f2, f3⟩ := Cond.arrayClass_spec (hts (.arrayClass .int) (tb_mem (i := 63) (by decide +kernel)))
  obtain ⟨cC, kC, compC, g1, g2, g3⟩ := Cond.arrayClass_spec (hts (.arrayClass .char) (tb_mem (i := 200) (by decide +kernel)))
  refine ⟨(fun k => match k with | 0 => c0 | 1 => c1 | 2 => c2 | 3 => c3 | 4 => c4 | 5 => c5 | 6 => c6 | _ => c7, fun k => match k with | 0 => i0 | 1 => i1 | 2 => i2 | 3 => i3 | 4 => i4 | 5 => i5 | 6 => i6 | _ => i7), cI, cC, ⟨?_, ?_⟩, fun w hw => va_Nw.of (nw_on (nws_ok w hw)) (hts w (nws_in w hw))⟩
  · intro c q hq
    match c, hq with
    | 0, hq => cases hq; exact k0
    | 1, hq => cases hq; exact k1
    | 2, hq => cases hq; exact k2
    | 3, hq => cases hq; exact k3
    | 4, hq => cases hq; exact k4
    | 5, hq => cases hq; exact k5
    | 6, hq => cases hq; exact k6
    | 7, hq => cases hq; exact k7
    | c + 8, hq => exact absurd hq (by rw [List.getElem?_eq_none (by show 8 ≤ c + 8; omega)]; exact fun z => by cases z)
  · intro k q hq
    match k, hq with
    | 0, hq => cases hq; exact ⟨fun n z => ⟨fun k h => (by cases h), kI, f2, compI, f3⟩, f1⟩
    | 1, hq => cases hq; exact ⟨fun n z => ⟨fun k h => (by cases h), kC, g2, compC, g3⟩, g1⟩
    | k + 2, hq => exact absurd hq (by rw [List.getElem?_eq_none (by show 2 ≤ k + 2; omega)]; exact fun z => by cases z)
set_option maxHeartbeats 4000000 in
theorem start_T {s : State} {b : Nat} (hts : ∀ w ∈ lw_tbl, w.before #[Value.ref b] s = true) (hgv : (Jvm.Cond.and given_1 narrow_1).before #[Value.ref b] s = true) : STX (fun q : Nat => s.heap.size ≤ q) s := by
  have hs := flat_of_before _ hgv
  have hA : ∀ a : Nat, a < s.heap.size → ¬ (fun q : Nat => s.heap.size ≤ q) a := fun a h => Nat.not_le.mpr h
  have hini := hts (.initialized "DriftGrinders") (tb_mem (i := 1) (by decide +kernel))
  have al := hs (Cond.arrayOf (.static "DriftGrinders" "SETTING_LEAST" "[I") .int) (by decide +kernel)
  have nl := va_eqt (hs (Cond.eq (.length (.static "DriftGrinders" "SETTING_LEAST" "[I")) (.int 6)) (by decide +kernel))
  have el0 := va_eqt (hs (Cond.eq (.elem (.static "DriftGrinders" "SETTING_LEAST" "[I") (.int 0)) (.int 100)) (by decide +kernel))
  have el1 := va_eqt (hs (Cond.eq (.elem (.static "DriftGrinders" "SETTING_LEAST" "[I") (.int 1)) (.int 0)) (by decide +kernel))
  have el2 := va_eqt (hs (Cond.eq (.elem (.static "DriftGrinders" "SETTING_LEAST" "[I") (.int 2)) (.int 0)) (by decide +kernel))
  have el3 := va_eqt (hs (Cond.eq (.elem (.static "DriftGrinders" "SETTING_LEAST" "[I") (.int 3)) (.int 30)) (by decide +kernel))
  have el4 := va_eqt (hs (Cond.eq (.elem (.static "DriftGrinders" "SETTING_LEAST" "[I") (.int 4)) (.int 30)) (by decide +kernel))
  have el5 := va_eqt (hs (Cond.eq (.elem (.static "DriftGrinders" "SETTING_LEAST" "[I") (.int 5)) (.int 0)) (by decide +kernel))
  obtain ⟨tl, ul, wl⟩ := va_Tof (tm := (.static "DriftGrinders" "SETTING_LEAST" "[I")) (ty := .int) (N := 6) (f := fun j => .int (tbL j)) (A := fun q : Nat => s.heap.size ≤ q) (by decide) al nl (fun j hj => by
    rcases six hj with rfl | rfl | rfl | rfl | rfl | rfl
    · exact el0
    · exact el1
    · exact el2
    · exact el3
    · exact el4
    · exact el5) hA
  have zl := va_Zof (C := "DriftGrinders") (n := "SETTING_LEAST") (d := "[I") (A := fun q : Nat => s.heap.size ≤ q) (hts (.laysStatic "DriftGrinders" "SETTING_LEAST" "[I") (tb_mem (i := 544) (by decide +kernel))) hini ul hA
  have am := hs (Cond.arrayOf (.static "DriftGrinders" "SETTING_MOST" "[I") .int) (by decide +kernel)
  have nm := va_eqt (hs (Cond.eq (.length (.static "DriftGrinders" "SETTING_MOST" "[I")) (.int 6)) (by decide +kernel))
  have em0 := va_eqt (hs (Cond.eq (.elem (.static "DriftGrinders" "SETTING_MOST" "[I") (.int 0)) (.int 600)) (by decide +kernel))
  have em1 := va_eqt (hs (Cond.eq (.elem (.static "DriftGrinders" "SETTING_MOST" "[I") (.int 1)) (.int 200)) (by decide +kernel))
  have em2 := va_eqt (hs (Cond.eq (.elem (.static "DriftGrinders" "SETTING_MOST" "[I") (.int 2)) (.int 100)) (by decide +kernel))
  have em3 := va_eqt (hs (Cond.eq (.elem (.static "DriftGrinders" "SETTING_MOST" "[I") (.int 3)) (.int 300)) (by decide +kernel))
  have em4 := va_eqt (hs (Cond.eq (.elem (.static "DriftGrinders" "SETTING_MOST" "[I") (.int 4)) (.int 300)) (by decide +kernel))
  have em5 := va_eqt (hs (Cond.eq (.elem (.static "DriftGrinders" "SETTING_MOST" "[I") (.int 5)) (.int 1)) (by decide +kernel))
  obtain ⟨tm, um, wm⟩ := va_Tof (tm := (.static "DriftGrinders" "SETTING_MOST" "[I")) (ty := .int) (N := 6) (f := fun j => .int (tbM j)) (A := fun q : Nat => s.heap.size ≤ q) (by decide) am nm (fun j hj => by
    rcases six hj with rfl | rfl | rfl | rfl | rfl | rfl
    · exact em0
    · exact em1
    · exact em2
    · exact em3
    · exact em4
    · exact em5) hA
  have zm := va_Zof (C := "DriftGrinders") (n := "SETTING_MOST") (d := "[I") (A := fun q : Nat => s.heap.size ≤ q) (hts (.laysStatic "DriftGrinders" "SETTING_MOST" "[I") (tb_mem (i := 546) (by decide +kernel))) hini um hA
  exact ⟨tl, tm, zl, wl, zm, wm⟩
/-! the two sides at the start -/
abbrev gr0 : Gr := ((fun _ => 0), (fun _ => 0), 0, 0, 30, 0, 0, 0, 30, 0, 0, 0, (fun _ => 0), (fun _ => 0), 0, 0, (fun _ => 0), (fun _ => 0), 0, 0, (fun _ => 0), 0, 0, st0, 0, 0, 0, 0, 0, 0)
def v00 : Nat → Nat := fun k => match k with
  | 0 => 280
  | 1 => 20
  | 2 => 40
  | 3 => 90
  | 4 => 120
  | _ => 0
def sp00 : Sp := ([], [], [], (30, 0, 0, 0), (30, 0, 0, 0), [], 0, v00, 0, 0, 0, 0, 0, 0)
theorem st00 : stR v00 st0 := fun k hk => by
  rcases six hk with rfl | rfl | rfl | rfl | rfl | rfl <;> rfl
theorem gr00 : GR sp00 gr0 := ⟨rowR_nil _ _, ⟨rfl, rfl, rfl, rfl⟩, ⟨rfl, rfl, rfl, rfl⟩, rowR_nil _ _, rowR_nil _ _, ⟨rfl, Nat.zero_le 12, fun k h => absurd h (Nat.not_lt_zero k), fun k h => absurd h (Nat.not_lt_zero k)⟩, rfl, st00, rfl, rfl, rfl, rfl, rfl, rfl⟩
theorem kk00 : KK sp00 0 := ⟨okR_nil, fun p hp => (by cases hp), Nat.zero_le 4000, Nat.zero_le 6, okR_nil, mkK_nil, Nat.zero_le 100, okR_nil, mkK_nil, Nat.zero_le 400, ⟨(by show 1 ≤ 30; decide), (by show 30 ≤ 60; decide), Nat.zero_le 300⟩, ⟨(by show 1 ≤ 30; decide), (by show 30 ≤ 60; decide), Nat.zero_le 300⟩, (by show stK v00; unfold stK v00; decide), Nat.zero_le 0⟩
theorem pi00 : PI sp00 53 := ⟨kk00, ⟨by decide, by decide, by decide⟩, Nat.zero_le 53, Nat.zero_le 12, fun k h => absurd h (Nat.not_lt_zero k)⟩
def aG0 : Nat → Int32 := upd (upd (upd (upd (upd (fun _ => 0) 7 280) 8 20) 9 40) 10 90) 11 120
def aU0 : Nat → Int32 := upd (upd (fun _ => 0) 0 30) 4 30
theorem lr00 : LR sp00 aG0 aU0 (fun _ => 0) (fun _ => 0) (fun _ => 0) (fun _ => 0) (fun _ => 0) := ⟨⟨rfl, fun k h => absurd h (Nat.not_lt_zero k)⟩, ⟨rfl, rfl, rfl, rfl⟩, ⟨rfl, rfl, rfl, rfl⟩, ⟨rfl, fun k h => absurd h (Nat.not_lt_zero k)⟩, ⟨rfl, fun k h => absurd h (Nat.not_lt_zero k)⟩, fun k h => absurd h (Nat.not_lt_zero k), rfl, rfl, fun k hk => (by rcases six hk with rfl | rfl | rfl | rfl | rfl | rfl <;> rfl), rfl, rfl, rfl, rfl, rfl, rfl⟩
theorem pm_st {α : Type} (X a b c d n s : List α) : (X ++ a ++ b ++ c ++ d ++ n ++ s).Perm ((X ++ n ++ s) ++ (a ++ b ++ c ++ d)) := by
  simp only [List.append_assoc]
  refine List.Perm.append_left X ?_
  have h1 := List.perm_append_comm (l₁ := a ++ (b ++ (c ++ d))) (l₂ := n ++ s)
  simp only [List.append_assoc] at h1
  exact h1
set_option maxRecDepth 100000 in
theorem ob00 {cI cC : ClassId} {q0 : Nat} {f : Nat → Nat} : ∃ w : va_W, OB cI cC q0 w sp00 w ∧ (([(q0, .inr (7, [.ref (f 0), .ref (f 1), .ref (f 7), .ref (f 8)])), ((f 0), .inr (2, [.ref (f 3), .ref (f 4), .ref (f 5), .ref (f 6), .int 0])), ((f 1), .inr (4, [.ref (f 2), .int 0, .int 0, .int 0, .int 0, .int 0, .int 0, .int 0, .int 0, .int 0])), ((f 2), .inl (cC, 60, .inl (fun _ => 0)))] ++ w_gr cI cC (f 3) (fun i => f (16 + i)) gr0 ++ w_gr cI cC (f 4) (fun i => f (32 + i)) gr0 ++ w_gr cI cC (f 5) (fun i => f (48 + i)) gr0 ++ w_gr cI cC (f 6) (fun i => f (64 + i)) gr0 ++ w_gr cI cC (f 7) (fun i => f (80 + i)) gr0 ++ w_gr cI cC (f 8) (fun i => f (96 + i)) gr0) : va_W).Perm w :=
  ⟨_, ⟨f 0, f 1, f 2, (fun i => f (80 + i)), (fun i => f (96 + i)), (fun i => f (16 + i)), (fun i => f (32 + i)), (fun i => f (48 + i)), (fun i => f (64 + i)), f 7, f 8, f 3, f 4, f 5, f 6, 0, (fun _ => 0), 0, 0, 0, 0, 0, 0, 0, 0, gr0, gr0, gr0, gr0, gr0, gr0, rfl, List.Perm.refl _, gr00, kk00, Nat.zero_le 4⟩, pm_st _ _ _ _ _ _ _⟩
set_option maxHeartbeats 8000000 in
set_option maxRecDepth 100000 in
theorem whole_start {p : Program} {e : Env} {s : State} {m : MethodId} {below : List Frame} {meth : Method} {c : Code} (l : Launch) (hflags : l.flags = flags0) {b L : Nat} {xs : Nat → Int32} (hL : L ≤ 260) (C0 : lw_At p s m meth c b L xs) : W p l e room_1 s m #[Value.ref b] below meth c s.heap [] 0 0 (lw_Z below #[Value.ref b] s) (entryFrame m ([Value.ref b] : List Value).toArray 12) := by
  obtain ⟨hx, hb, hr, hml, hown, hts, hX, hbl, hlocks, hgv⟩ := id C0
  have hA : ∀ q : Nat, s.heap.size ≤ q → (fun q : Nat => s.heap.size ≤ q) q := fun _ h => h
  obtain ⟨D, cI, cC, hK, hN⟩ := start_K hts
  have hT := start_T hts hgv
  have hts' : ∀ w ∈ wsL_law, w.before #[Value.ref b] s = true := fun w h => hts w (wsL_law_in w h)
  have hown' : s.vm.findClass RL = some m.cls := hown
  have hF : FX p m c cL_law 12 s #[Value.ref b] wsL_law RL D cI cC := ⟨⟨hx, hb, hml, hown', hts'⟩, hK, hN⟩
  have k94 := hts (.constant RL 94 (-1000001)) (tb_mem (i := 554) (by decide +kernel))
  have hLX : LX p m c s b L xs D cI cC := ⟨hF, hX, hbl, hL, hT, k94⟩
  have k0 := hts (.classLink RL 30 RX7) (tb_mem (i := 11) (by decide +kernel))
  have k1 := hts (.instantiable RX7 4) (tb_mem (i := 12) (by decide +kernel))
  have k2 := hts (.initialized RX7) (tb_mem (i := 1) (by decide +kernel))
  have k3 := hts (.methodLink RL 111 yX7_init) (tb_mem (i := 13) (by decide +kernel))
  have k4 := hts (.instanceMethod yX7_init) (tb_mem (i := 14) (by decide +kernel))
  have kI := hts (.arrayClass .int) (tb_mem (i := 63) (by decide +kernel))
  have hS : va_S (fun q : Nat => s.heap.size ≤ q) s.heap s.heap [] := va_S.rf
  have hP : va_P D vwCl [] s.heap := fun k q h => by simp at h
  have hD : va_D (fun q : Nat => s.heap.size ≤ q) [] := ⟨fun i j p q h => by simp at h, fun k q h => by simp at h⟩
  have hl := lv_entry ([.ref b]) (n := 12) (Nat.le_of_ble_eq_true rfl)
  rw [lg_entry_eq]
  generalize (lg_sl ([.ref b]) ++ List.replicate (12 - (lg_sl ([.ref b])).length) Slot.unset).toArray = ls at hl ⊢
  have hl : lv_has ls 12 [(0, .ref b)] := hl
  refine va_new (ci := 7) (fs := [.null, .null, .null, .null]) (C := RX7) (T := TX7) (N := 4) hx hb hts' inlX7 tyX7 tyX7_ok hown' k0 k1 k2 hK hP hD hS hA rfl (fun j hj => by rcases (show j = 0 ∨ j = 1 ∨ j = 2 ∨ j = 3 by omega) with rfl | rfl | rfl | rfl <;> rfl) (Nat.le_of_ble_eq_true rfl) (Nat.le_of_ble_eq_true rfl) dL_law_0 (fun q0 H hP hD hS => ?_)
  have hP : va_P D vwCl [(q0, .inr (7, [.null, .null, .null, .null]))] H := hP
  have hD : va_D (fun q : Nat => s.heap.size ≤ q) [(q0, .inr (7, [.null, .null, .null, .null]))] := hD
  refine W.widen (k := 1) (n := 4) (Nat.le_of_ble_eq_true rfl) (Nat.le_of_ble_eq_true rfl) ?_
  refine lv_dup hx hb dL_law_3 rfl ?_
  refine cl_I (wr := []) (As := []) (rest := [.ref q0]) hF hP hD hS hA (c_X7_init q0) (cwI 0 hts' gL_law_X7_init rfl rfl rfl k2 k3 k4 rfl (by decide +kernel) ⟨(Nat.le_of_ble_eq_true rfl), (Nat.le_of_ble_eq_true rfl)⟩) [0] [] rfl rfl (by decide +kernel) (by decide +kernel) (by decide +kernel) rfl rfl hl.1 (Nat.le_of_ble_eq_true rfl) dL_law_4 ⟨(Nat.le_of_ble_eq_true rfl), (Nat.le_of_ble_eq_true rfl)⟩ (fun f H locs hP hD hS => ?_)
  have hP : va_P D vwCl ([(q0, .inr (7, [.ref (f 0), .ref (f 1), .ref (f 7), .ref (f 8)])), ((f 0), .inr (2, [.ref (f 3), .ref (f 4), .ref (f 5), .ref (f 6), .int 0])), ((f 1), .inr (4, [.ref (f 2), .int 0, .int 0, .int 0, .int 0, .int 0, .int 0, .int 0, .int 0, .int 0])), ((f 2), .inl (cC, 60, .inl (fun _ => 0)))] ++ w_gr cI cC (f 3) (fun i => f (16 + i)) gr0 ++ w_gr cI cC (f 4) (fun i => f (32 + i)) gr0 ++ w_gr cI cC (f 5) (fun i => f (48 + i)) gr0 ++ w_gr cI cC (f 6) (fun i => f (64 + i)) gr0 ++ w_gr cI cC (f 7) (fun i => f (80 + i)) gr0 ++ w_gr cI cC (f 8) (fun i => f (96 + i)) gr0) H := hP
  have hD : va_D (fun q : Nat => s.heap.size ≤ q) ([(q0, .inr (7, [.ref (f 0), .ref (f 1), .ref (f 7), .ref (f 8)])), ((f 0), .inr (2, [.ref (f 3), .ref (f 4), .ref (f 5), .ref (f 6), .int 0])), ((f 1), .inr (4, [.ref (f 2), .int 0, .int 0, .int 0, .int 0, .int 0, .int 0, .int 0, .int 0, .int 0])), ((f 2), .inl (cC, 60, .inl (fun _ => 0)))] ++ w_gr cI cC (f 3) (fun i => f (16 + i)) gr0 ++ w_gr cI cC (f 4) (fun i => f (32 + i)) gr0 ++ w_gr cI cC (f 5) (fun i => f (48 + i)) gr0 ++ w_gr cI cC (f 6) (fun i => f (64 + i)) gr0 ++ w_gr cI cC (f 7) (fun i => f (80 + i)) gr0 ++ w_gr cI cC (f 8) (fun i => f (96 + i)) gr0) := hD
  obtain ⟨w, hOB, hpm⟩ := ob00 (cI := cI) (cC := cC) (q0 := q0) (f := f)
  replace hP := vp_perm hpm hP
  replace hD := vd_perm hpm hD
  clear hpm
  refine W.widen (k := 100) (n := 7057) (Nat.le_of_ble_eq_true rfl) (Nat.le_of_ble_eq_true rfl) ?_
  refine lv_astore_n (lv' := [(1, .ref q0), (0, .ref b)]) hx hb dL_law_7 rfl hl (by decide) rfl (fun ls hl => ?_)
  refine lv_bipush (v := (15 : Int32)) hx hb dL_law_8 (by decide) ?_
  refine va_newa (atype := .int) (ty := .int) (N' := 15) (a0 := (15, .inl (fun _ => 0))) hx hb kI rfl hK hP hD hS hA (fun _ => rfl) (by decide) (by decide) (Nat.le_of_ble_eq_true rfl) (Nat.le_of_ble_eq_true rfl) (Nat.le_of_ble_eq_true rfl) dL_law_10 (fun bg cA H hK2 hP hD hS => ?_)
  obtain rfl := ka_I hK2
  clear hK2
  have hP : va_P D vwCl (w ++ [(bg, .inl (cI, 15, .inl (fun _ => 0)))]) H := hP
  have hD : va_D (fun q : Nat => s.heap.size ≤ q) (w ++ [(bg, .inl (cI, 15, .inl (fun _ => 0)))]) := hD
  refine W.widen (k := 101) (n := 7072) (Nat.le_of_ble_eq_true rfl) (Nat.le_of_ble_eq_true rfl) ?_
  refine lv_astore_n (lv' := [(2, .ref bg), (1, .ref q0), (0, .ref b)]) hx hb dL_law_12 rfl hl (by decide) rfl (fun ls hl => ?_)
  refine lv_bipush (v := (8 : Int32)) hx hb dL_law_13 (by decide) ?_
  refine va_newa (atype := .int) (ty := .int) (N' := 8) (a0 := (8, .inl (fun _ => 0))) hx hb kI rfl hK hP hD hS hA (fun _ => rfl) (by decide) (by decide) (Nat.le_of_ble_eq_true rfl) (Nat.le_of_ble_eq_true rfl) (Nat.le_of_ble_eq_true rfl) dL_law_15 (fun bu cA H hK2 hP hD hS => ?_)
  obtain rfl := ka_I hK2
  clear hK2
  have hP : va_P D vwCl (w ++ [(bg, .inl (cI, 15, .inl (fun _ => 0))), (bu, .inl (cI, 8, .inl (fun _ => 0)))]) H := (by rw [List.append_assoc] at hP; exact hP)
  have hD : va_D (fun q : Nat => s.heap.size ≤ q) (w ++ [(bg, .inl (cI, 15, .inl (fun _ => 0))), (bu, .inl (cI, 8, .inl (fun _ => 0)))]) := (by rw [List.append_assoc] at hD; exact hD)
  refine W.widen (k := 102) (n := 7080) (Nat.le_of_ble_eq_true rfl) (Nat.le_of_ble_eq_true rfl) ?_
  refine lv_astore_n (lv' := [(3, .ref bu), (2, .ref bg), (1, .ref q0), (0, .ref b)]) hx hb dL_law_17 rfl hl (by decide) rfl (fun ls hl => ?_)
  refine lv_bipush (v := (12 : Int32)) hx hb dL_law_18 (by decide) ?_
  refine va_newa (atype := .int) (ty := .int) (N' := 12) (a0 := (12, .inl (fun _ => 0))) hx hb kI rfl hK hP hD hS hA (fun _ => rfl) (by decide) (by decide) (Nat.le_of_ble_eq_true rfl) (Nat.le_of_ble_eq_true rfl) (Nat.le_of_ble_eq_true rfl) dL_law_20 (fun bh cA H hK2 hP hD hS => ?_)
  obtain rfl := ka_I hK2
  clear hK2
  have hP : va_P D vwCl (w ++ [(bg, .inl (cI, 15, .inl (fun _ => 0))), (bu, .inl (cI, 8, .inl (fun _ => 0))), (bh, .inl (cI, 12, .inl (fun _ => 0)))]) H := (by rw [List.append_assoc] at hP; exact hP)
  have hD : va_D (fun q : Nat => s.heap.size ≤ q) (w ++ [(bg, .inl (cI, 15, .inl (fun _ => 0))), (bu, .inl (cI, 8, .inl (fun _ => 0))), (bh, .inl (cI, 12, .inl (fun _ => 0)))]) := (by rw [List.append_assoc] at hD; exact hD)
  refine W.widen (k := 103) (n := 7092) (Nat.le_of_ble_eq_true rfl) (Nat.le_of_ble_eq_true rfl) ?_
  refine lv_astore (lv' := [(4, .ref bh), (3, .ref bu), (2, .ref bg), (1, .ref q0), (0, .ref b)]) hx hb dL_law_22 hl (by decide) rfl (fun ls hl => ?_)
  refine lv_bipush (v := (64 : Int32)) hx hb dL_law_24 (by decide) ?_
  refine va_newa (atype := .int) (ty := .int) (N' := 64) (a0 := (64, .inl (fun _ => 0))) hx hb kI rfl hK hP hD hS hA (fun _ => rfl) (by decide) (by decide) (Nat.le_of_ble_eq_true rfl) (Nat.le_of_ble_eq_true rfl) (Nat.le_of_ble_eq_true rfl) dL_law_26 (fun bc cA H hK2 hP hD hS => ?_)
  obtain rfl := ka_I hK2
  clear hK2
  have hP : va_P D vwCl (w ++ [(bg, .inl (cI, 15, .inl (fun _ => 0))), (bu, .inl (cI, 8, .inl (fun _ => 0))), (bh, .inl (cI, 12, .inl (fun _ => 0))), (bc, .inl (cI, 64, .inl (fun _ => 0)))]) H := (by rw [List.append_assoc] at hP; exact hP)
  have hD : va_D (fun q : Nat => s.heap.size ≤ q) (w ++ [(bg, .inl (cI, 15, .inl (fun _ => 0))), (bu, .inl (cI, 8, .inl (fun _ => 0))), (bh, .inl (cI, 12, .inl (fun _ => 0))), (bc, .inl (cI, 64, .inl (fun _ => 0)))]) := (by rw [List.append_assoc] at hD; exact hD)
  refine W.widen (k := 104) (n := 7156) (Nat.le_of_ble_eq_true rfl) (Nat.le_of_ble_eq_true rfl) ?_
  refine lv_astore (lv' := [(5, .ref bc), (4, .ref bh), (3, .ref bu), (2, .ref bg), (1, .ref q0), (0, .ref b)]) hx hb dL_law_28 hl (by decide) rfl (fun ls hl => ?_)
  refine lv_bipush (v := (64 : Int32)) hx hb dL_law_30 (by decide) ?_
  refine va_newa (atype := .int) (ty := .int) (N' := 64) (a0 := (64, .inl (fun _ => 0))) hx hb kI rfl hK hP hD hS hA (fun _ => rfl) (by decide) (by decide) (Nat.le_of_ble_eq_true rfl) (Nat.le_of_ble_eq_true rfl) (Nat.le_of_ble_eq_true rfl) dL_law_32 (fun be cA H hK2 hP hD hS => ?_)
  obtain rfl := ka_I hK2
  clear hK2
  have hP : va_P D vwCl (w ++ [(bg, .inl (cI, 15, .inl (fun _ => 0))), (bu, .inl (cI, 8, .inl (fun _ => 0))), (bh, .inl (cI, 12, .inl (fun _ => 0))), (bc, .inl (cI, 64, .inl (fun _ => 0))), (be, .inl (cI, 64, .inl (fun _ => 0)))]) H := (by rw [List.append_assoc] at hP; exact hP)
  have hD : va_D (fun q : Nat => s.heap.size ≤ q) (w ++ [(bg, .inl (cI, 15, .inl (fun _ => 0))), (bu, .inl (cI, 8, .inl (fun _ => 0))), (bh, .inl (cI, 12, .inl (fun _ => 0))), (bc, .inl (cI, 64, .inl (fun _ => 0))), (be, .inl (cI, 64, .inl (fun _ => 0)))]) := (by rw [List.append_assoc] at hD; exact hD)
  refine W.widen (k := 105) (n := 7220) (Nat.le_of_ble_eq_true rfl) (Nat.le_of_ble_eq_true rfl) ?_
  refine lv_astore (lv' := [(6, .ref be), (5, .ref bc), (4, .ref bh), (3, .ref bu), (2, .ref bg), (1, .ref q0), (0, .ref b)]) hx hb dL_law_34 hl (by decide) rfl (fun ls hl => ?_)
  refine lv_bipush (v := (36 : Int32)) hx hb dL_law_36 (by decide) ?_
  refine va_newa (atype := .int) (ty := .int) (N' := 36) (a0 := (36, .inl (fun _ => 0))) hx hb kI rfl hK hP hD hS hA (fun _ => rfl) (by decide) (by decide) (Nat.le_of_ble_eq_true rfl) (Nat.le_of_ble_eq_true rfl) (Nat.le_of_ble_eq_true rfl) dL_law_38 (fun bt cA H hK2 hP hD hS => ?_)
  obtain rfl := ka_I hK2
  clear hK2
  have hP : va_P D vwCl (w ++ [(bg, .inl (cI, 15, .inl (fun _ => 0))), (bu, .inl (cI, 8, .inl (fun _ => 0))), (bh, .inl (cI, 12, .inl (fun _ => 0))), (bc, .inl (cI, 64, .inl (fun _ => 0))), (be, .inl (cI, 64, .inl (fun _ => 0))), (bt, .inl (cI, 36, .inl (fun _ => 0)))]) H := (by rw [List.append_assoc] at hP; exact hP)
  have hD : va_D (fun q : Nat => s.heap.size ≤ q) (w ++ [(bg, .inl (cI, 15, .inl (fun _ => 0))), (bu, .inl (cI, 8, .inl (fun _ => 0))), (bh, .inl (cI, 12, .inl (fun _ => 0))), (bc, .inl (cI, 64, .inl (fun _ => 0))), (be, .inl (cI, 64, .inl (fun _ => 0))), (bt, .inl (cI, 36, .inl (fun _ => 0)))]) := (by rw [List.append_assoc] at hD; exact hD)
  refine W.widen (k := 106) (n := 7256) (Nat.le_of_ble_eq_true rfl) (Nat.le_of_ble_eq_true rfl) ?_
  refine lv_astore (lv' := [(7, .ref bt), (6, .ref be), (5, .ref bc), (4, .ref bh), (3, .ref bu), (2, .ref bg), (1, .ref q0), (0, .ref b)]) hx hb dL_law_40 hl (by decide) rfl (fun ls hl => ?_)
  refine lv_bipush (v := (48 : Int32)) hx hb dL_law_42 (by decide) ?_
  refine va_newa (atype := .int) (ty := .int) (N' := 48) (a0 := (48, .inl (fun _ => 0))) hx hb kI rfl hK hP hD hS hA (fun _ => rfl) (by decide) (by decide) (Nat.le_of_ble_eq_true rfl) (Nat.le_of_ble_eq_true rfl) (Nat.le_of_ble_eq_true rfl) dL_law_44 (fun bx cA H hK2 hP hD hS => ?_)
  obtain rfl := ka_I hK2
  clear hK2
  have hP : va_P D vwCl (w ++ [(bg, .inl (cI, 15, .inl (fun _ => 0))), (bu, .inl (cI, 8, .inl (fun _ => 0))), (bh, .inl (cI, 12, .inl (fun _ => 0))), (bc, .inl (cI, 64, .inl (fun _ => 0))), (be, .inl (cI, 64, .inl (fun _ => 0))), (bt, .inl (cI, 36, .inl (fun _ => 0))), (bx, .inl (cI, 48, .inl (fun _ => 0)))]) H := (by rw [List.append_assoc] at hP; exact hP)
  have hD : va_D (fun q : Nat => s.heap.size ≤ q) (w ++ [(bg, .inl (cI, 15, .inl (fun _ => 0))), (bu, .inl (cI, 8, .inl (fun _ => 0))), (bh, .inl (cI, 12, .inl (fun _ => 0))), (bc, .inl (cI, 64, .inl (fun _ => 0))), (be, .inl (cI, 64, .inl (fun _ => 0))), (bt, .inl (cI, 36, .inl (fun _ => 0))), (bx, .inl (cI, 48, .inl (fun _ => 0)))]) := (by rw [List.append_assoc] at hD; exact hD)
  refine W.widen (k := 107) (n := 7304) (Nat.le_of_ble_eq_true rfl) (Nat.le_of_ble_eq_true rfl) ?_
  refine lv_astore (lv' := [(8, .ref bx), (7, .ref bt), (6, .ref be), (5, .ref bc), (4, .ref bh), (3, .ref bu), (2, .ref bg), (1, .ref q0), (0, .ref b)]) hx hb dL_law_46 hl (by decide) rfl (fun ls hl => ?_)
  replace hP := vp_perm List.perm_append_comm hP
  replace hD := vd_perm List.perm_append_comm hD
  refine W.widen (k := 600000) (n := 7302250) (Nat.le_of_ble_eq_true rfl) (Nat.le_of_ble_eq_true rfl) ?_
  refine lv_aload_n hx hb dL_law_48 rfl (lv_at hl 6 rfl) ?_
  refine lv_bipush (v := (7 : Int32)) hx hb dL_law_49 (by decide) ?_
  refine lv_sipush (v := (280 : Int32)) hx hb dL_law_51 (by decide) ?_
  refine x_iast hx hb hK hP hD hS 0 0 rfl rfl (show ¬ ((7 : Int32) < 0 ∨ 15 ≤ (7 : Int32).toNatClampNeg) by decide) dL_law_54 (fun Z1 H locs eZ1 hP hD hS => ?_)
  have hP : va_P D vwCl ([(bg, .inl (cI, 15, .inl Z1)), (bu, .inl (cI, 8, .inl (fun _ => 0))), (bh, .inl (cI, 12, .inl (fun _ => 0))), (bc, .inl (cI, 64, .inl (fun _ => 0))), (be, .inl (cI, 64, .inl (fun _ => 0))), (bt, .inl (cI, 36, .inl (fun _ => 0))), (bx, .inl (cI, 48, .inl (fun _ => 0)))] ++ w) H := hP
  have hD : va_D (fun q : Nat => s.heap.size ≤ q) ([(bg, .inl (cI, 15, .inl Z1)), (bu, .inl (cI, 8, .inl (fun _ => 0))), (bh, .inl (cI, 12, .inl (fun _ => 0))), (bc, .inl (cI, 64, .inl (fun _ => 0))), (be, .inl (cI, 64, .inl (fun _ => 0))), (bt, .inl (cI, 36, .inl (fun _ => 0))), (bx, .inl (cI, 48, .inl (fun _ => 0)))] ++ w) := hD
  refine lv_aload_n hx hb dL_law_55 rfl (lv_at hl 6 rfl) ?_
  refine lv_bipush (v := (8 : Int32)) hx hb dL_law_56 (by decide) ?_
  refine lv_bipush (v := (20 : Int32)) hx hb dL_law_58 (by decide) ?_
  refine x_iast hx hb hK hP hD hS 0 0 rfl rfl (show ¬ ((8 : Int32) < 0 ∨ 15 ≤ (8 : Int32).toNatClampNeg) by decide) dL_law_60 (fun Z2 H locs eZ2 hP hD hS => ?_)
  have hP : va_P D vwCl ([(bg, .inl (cI, 15, .inl Z2)), (bu, .inl (cI, 8, .inl (fun _ => 0))), (bh, .inl (cI, 12, .inl (fun _ => 0))), (bc, .inl (cI, 64, .inl (fun _ => 0))), (be, .inl (cI, 64, .inl (fun _ => 0))), (bt, .inl (cI, 36, .inl (fun _ => 0))), (bx, .inl (cI, 48, .inl (fun _ => 0)))] ++ w) H := hP
  have hD : va_D (fun q : Nat => s.heap.size ≤ q) ([(bg, .inl (cI, 15, .inl Z2)), (bu, .inl (cI, 8, .inl (fun _ => 0))), (bh, .inl (cI, 12, .inl (fun _ => 0))), (bc, .inl (cI, 64, .inl (fun _ => 0))), (be, .inl (cI, 64, .inl (fun _ => 0))), (bt, .inl (cI, 36, .inl (fun _ => 0))), (bx, .inl (cI, 48, .inl (fun _ => 0)))] ++ w) := hD
  refine lv_aload_n hx hb dL_law_61 rfl (lv_at hl 6 rfl) ?_
  refine lv_bipush (v := (9 : Int32)) hx hb dL_law_62 (by decide) ?_
  refine lv_bipush (v := (40 : Int32)) hx hb dL_law_64 (by decide) ?_
  refine x_iast hx hb hK hP hD hS 0 0 rfl rfl (show ¬ ((9 : Int32) < 0 ∨ 15 ≤ (9 : Int32).toNatClampNeg) by decide) dL_law_66 (fun Z3 H locs eZ3 hP hD hS => ?_)
  have hP : va_P D vwCl ([(bg, .inl (cI, 15, .inl Z3)), (bu, .inl (cI, 8, .inl (fun _ => 0))), (bh, .inl (cI, 12, .inl (fun _ => 0))), (bc, .inl (cI, 64, .inl (fun _ => 0))), (be, .inl (cI, 64, .inl (fun _ => 0))), (bt, .inl (cI, 36, .inl (fun _ => 0))), (bx, .inl (cI, 48, .inl (fun _ => 0)))] ++ w) H := hP
  have hD : va_D (fun q : Nat => s.heap.size ≤ q) ([(bg, .inl (cI, 15, .inl Z3)), (bu, .inl (cI, 8, .inl (fun _ => 0))), (bh, .inl (cI, 12, .inl (fun _ => 0))), (bc, .inl (cI, 64, .inl (fun _ => 0))), (be, .inl (cI, 64, .inl (fun _ => 0))), (bt, .inl (cI, 36, .inl (fun _ => 0))), (bx, .inl (cI, 48, .inl (fun _ => 0)))] ++ w) := hD
  refine lv_aload_n hx hb dL_law_67 rfl (lv_at hl 6 rfl) ?_
  refine lv_bipush (v := (10 : Int32)) hx hb dL_law_68 (by decide) ?_
  refine lv_bipush (v := (90 : Int32)) hx hb dL_law_70 (by decide) ?_
  refine x_iast hx hb hK hP hD hS 0 0 rfl rfl (show ¬ ((10 : Int32) < 0 ∨ 15 ≤ (10 : Int32).toNatClampNeg) by decide) dL_law_72 (fun Z4 H locs eZ4 hP hD hS => ?_)
  have hP : va_P D vwCl ([(bg, .inl (cI, 15, .inl Z4)), (bu, .inl (cI, 8, .inl (fun _ => 0))), (bh, .inl (cI, 12, .inl (fun _ => 0))), (bc, .inl (cI, 64, .inl (fun _ => 0))), (be, .inl (cI, 64, .inl (fun _ => 0))), (bt, .inl (cI, 36, .inl (fun _ => 0))), (bx, .inl (cI, 48, .inl (fun _ => 0)))] ++ w) H := hP
  have hD : va_D (fun q : Nat => s.heap.size ≤ q) ([(bg, .inl (cI, 15, .inl Z4)), (bu, .inl (cI, 8, .inl (fun _ => 0))), (bh, .inl (cI, 12, .inl (fun _ => 0))), (bc, .inl (cI, 64, .inl (fun _ => 0))), (be, .inl (cI, 64, .inl (fun _ => 0))), (bt, .inl (cI, 36, .inl (fun _ => 0))), (bx, .inl (cI, 48, .inl (fun _ => 0)))] ++ w) := hD
  refine lv_aload_n hx hb dL_law_73 rfl (lv_at hl 6 rfl) ?_
  refine lv_bipush (v := (11 : Int32)) hx hb dL_law_74 (by decide) ?_
  refine lv_bipush (v := (120 : Int32)) hx hb dL_law_76 (by decide) ?_
  refine x_iast hx hb hK hP hD hS 0 0 rfl rfl (show ¬ ((11 : Int32) < 0 ∨ 15 ≤ (11 : Int32).toNatClampNeg) by decide) dL_law_78 (fun Z5 H locs eZ5 hP hD hS => ?_)
  have hP : va_P D vwCl ([(bg, .inl (cI, 15, .inl Z5)), (bu, .inl (cI, 8, .inl (fun _ => 0))), (bh, .inl (cI, 12, .inl (fun _ => 0))), (bc, .inl (cI, 64, .inl (fun _ => 0))), (be, .inl (cI, 64, .inl (fun _ => 0))), (bt, .inl (cI, 36, .inl (fun _ => 0))), (bx, .inl (cI, 48, .inl (fun _ => 0)))] ++ w) H := hP
  have hD : va_D (fun q : Nat => s.heap.size ≤ q) ([(bg, .inl (cI, 15, .inl Z5)), (bu, .inl (cI, 8, .inl (fun _ => 0))), (bh, .inl (cI, 12, .inl (fun _ => 0))), (bc, .inl (cI, 64, .inl (fun _ => 0))), (be, .inl (cI, 64, .inl (fun _ => 0))), (bt, .inl (cI, 36, .inl (fun _ => 0))), (bx, .inl (cI, 48, .inl (fun _ => 0)))] ++ w) := hD
  refine lv_aload_n hx hb dL_law_79 rfl (lv_at hl 5 rfl) ?_
  refine lv_iconst (v := (0 : Int32)) hx hb dL_law_80 (by decide) ?_
  refine lv_bipush (v := (30 : Int32)) hx hb dL_law_81 (by decide) ?_
  refine x_iast hx hb hK hP hD hS 1 0 rfl rfl (show ¬ ((0 : Int32) < 0 ∨ 8 ≤ (0 : Int32).toNatClampNeg) by decide) dL_law_83 (fun Z6 H locs eZ6 hP hD hS => ?_)
  have hP : va_P D vwCl ([(bg, .inl (cI, 15, .inl Z5)), (bu, .inl (cI, 8, .inl Z6)), (bh, .inl (cI, 12, .inl (fun _ => 0))), (bc, .inl (cI, 64, .inl (fun _ => 0))), (be, .inl (cI, 64, .inl (fun _ => 0))), (bt, .inl (cI, 36, .inl (fun _ => 0))), (bx, .inl (cI, 48, .inl (fun _ => 0)))] ++ w) H := hP
  have hD : va_D (fun q : Nat => s.heap.size ≤ q) ([(bg, .inl (cI, 15, .inl Z5)), (bu, .inl (cI, 8, .inl Z6)), (bh, .inl (cI, 12, .inl (fun _ => 0))), (bc, .inl (cI, 64, .inl (fun _ => 0))), (be, .inl (cI, 64, .inl (fun _ => 0))), (bt, .inl (cI, 36, .inl (fun _ => 0))), (bx, .inl (cI, 48, .inl (fun _ => 0)))] ++ w) := hD
  refine lv_aload_n hx hb dL_law_84 rfl (lv_at hl 5 rfl) ?_
  refine lv_iconst (v := (4 : Int32)) hx hb dL_law_85 (by decide) ?_
  refine lv_bipush (v := (30 : Int32)) hx hb dL_law_86 (by decide) ?_
  refine x_iast hx hb hK hP hD hS 1 0 rfl rfl (show ¬ ((4 : Int32) < 0 ∨ 8 ≤ (4 : Int32).toNatClampNeg) by decide) dL_law_88 (fun Z7 H locs eZ7 hP hD hS => ?_)
  have hP : va_P D vwCl ([(bg, .inl (cI, 15, .inl Z5)), (bu, .inl (cI, 8, .inl Z7)), (bh, .inl (cI, 12, .inl (fun _ => 0))), (bc, .inl (cI, 64, .inl (fun _ => 0))), (be, .inl (cI, 64, .inl (fun _ => 0))), (bt, .inl (cI, 36, .inl (fun _ => 0))), (bx, .inl (cI, 48, .inl (fun _ => 0)))] ++ w) H := hP
  have hD : va_D (fun q : Nat => s.heap.size ≤ q) ([(bg, .inl (cI, 15, .inl Z5)), (bu, .inl (cI, 8, .inl Z7)), (bh, .inl (cI, 12, .inl (fun _ => 0))), (bc, .inl (cI, 64, .inl (fun _ => 0))), (be, .inl (cI, 64, .inl (fun _ => 0))), (bt, .inl (cI, 36, .inl (fun _ => 0))), (bx, .inl (cI, 48, .inl (fun _ => 0)))] ++ w) := hD
  obtain rfl : Z5 = aG0 := by rw [eZ5, eZ4, eZ3, eZ2, eZ1]; rfl
  obtain rfl : Z7 = aU0 := by rw [eZ7, eZ6]; rfl
  refine lv_aload_n hx hb dL_law_89 rfl (lv_at hl 7 rfl) ?_
  refine lv_aload_n hx hb dL_law_90 rfl (lv_at hl 6 rfl) ?_
  refine lv_aload_n hx hb dL_law_91 rfl (lv_at hl 5 rfl) ?_
  refine lv_aload hx hb dL_law_92 (lv_at hl 4 rfl) ?_
  refine lv_aload hx hb dL_law_94 (lv_at hl 3 rfl) ?_
  refine lv_aload hx hb dL_law_96 (lv_at hl 2 rfl) ?_
  refine lv_aload hx hb dL_law_98 (lv_at hl 1 rfl) ?_
  refine lv_aload hx hb dL_law_100 (lv_at hl 0 rfl) ?_
  refine cl_RSO (X0 := [(bg, .inl (cI, 15, .inl aG0)), (bu, .inl (cI, 8, .inl aU0)), (bh, .inl (cI, 12, .inl (fun _ => 0))), (bc, .inl (cI, 64, .inl (fun _ => 0))), (be, .inl (cI, 64, .inl (fun _ => 0))), (bt, .inl (cI, 36, .inl (fun _ => 0))), (bx, .inl (cI, 48, .inl (fun _ => 0)))]) (As := [.ref q0, .ref bg, .ref bu, .ref bh, .ref bc, .ref be, .ref bt, .ref bx]) (rest := []) hF hP hD (c_L_isSo bg bu bh bc be bt bx q0 aG0 aU0 (fun _ => 0) (fun _ => 0) (fun _ => 0) (fun _ => 0) (fun _ => 0) sp00 hOB 1 (S_isSo lr00 pi00)) (va_cwS 8 hts' gL_law_L_isSo rfl rfl rfl (by decide +kernel) ⟨(Nat.le_of_ble_eq_true rfl), (Nat.le_of_ble_eq_true rfl)⟩) [0, 1, 2, 3, 4, 5, 6] rfl (nX := 7) rfl (by decide +kernel) rfl rfl hl.1 (Nat.le_of_ble_eq_true rfl) dL_law_102 ⟨(Nat.le_of_ble_eq_true rfl), (Nat.le_of_ble_eq_true rfl)⟩ ?_
  refine lv_istore (lv' := [(9, .int (1 : Int32)), (8, .ref bx), (7, .ref bt), (6, .ref be), (5, .ref bc), (4, .ref bh), (3, .ref bu), (2, .ref bg), (1, .ref q0), (0, .ref b)]) hx hb dL_law_105 hl (by decide) rfl (fun ls hl => ?_)
  refine lv_bipush (v := (14 : Int32)) hx hb dL_law_107 (by decide) ?_
  refine lv_aload_n hx hb dL_law_109 rfl (lv_at hl 9 rfl) ?_
  refine lv_iconst (v := nI 0) hx hb dL_law_110 (by decide) ?_
  refine cl_CELL hLX hS 0 (by decide) hl.1 (Nat.le_of_ble_eq_true rfl) dL_law_111 ⟨(Nat.le_of_ble_eq_true rfl), (Nat.le_of_ble_eq_true rfl)⟩ (fun z => ?_)
  refine lv_bipush (v := (60 : Int32)) hx hb dL_law_114 (by decide) ?_
  obtain ⟨j, hj, hlow⟩ := L_low z (n := 60) (by decide) (by decide)
  refine cl_RSL (X0 := [(bg, .inl (cI, 15, .inl aG0)), (bu, .inl (cI, 8, .inl aU0)), (bh, .inl (cI, 12, .inl (fun _ => 0))), (bc, .inl (cI, 64, .inl (fun _ => 0))), (be, .inl (cI, 64, .inl (fun _ => 0))), (bt, .inl (cI, 36, .inl (fun _ => 0))), (bx, .inl (cI, 48, .inl (fun _ => 0)))]) (As := [.int z, .int (60 : Int32)]) (rest := [.int (14 : Int32)]) hF hP hD (c_L_low z (60 : Int32) (nI j) hlow) (va_cwS 2 hts' gL_law_L_low rfl rfl rfl (by decide +kernel) ⟨(Nat.le_of_ble_eq_true rfl), (Nat.le_of_ble_eq_true rfl)⟩) [] rfl (by decide +kernel) rfl rfl hl.1 (Nat.le_of_ble_eq_true rfl) dL_law_116 ⟨(Nat.le_of_ble_eq_true rfl), (Nat.le_of_ble_eq_true rfl)⟩ ?_
  refine lv_iadd hx hb dL_law_119 ?_
  rw [show (14 : Int32) + nI j = nI (14 + j) from nI_add 14 j]
  refine lv_istore (lv' := [(10, .int (nI (14 + j))), (9, .int (1 : Int32)), (8, .ref bx), (7, .ref bt), (6, .ref be), (5, .ref bc), (4, .ref bh), (3, .ref bu), (2, .ref bg), (1, .ref q0), (0, .ref b)]) hx hb dL_law_120 hl (by decide) rfl (fun ls hl => ?_)
  refine lv_iconst (v := nI 0) hx hb dL_law_122 (by decide) ?_
  refine lv_istore (lv' := [(11, .int (nI 0)), (10, .int (nI (14 + j))), (9, .int (1 : Int32)), (8, .ref bx), (7, .ref bt), (6, .ref be), (5, .ref bc), (4, .ref bh), (3, .ref bu), (2, .ref bg), (1, .ref q0), (0, .ref b)]) hx hb dL_law_123 hl (by decide) rfl (fun ls hl => ?_)
  exact law_loop hLX hr hlocks (by omega) (14 + j) 0 sp00 aG0 aU0 (fun _ => 0) (fun _ => 0) (fun _ => 0) (fun _ => 0) (fun _ => 0) w H locs ls (by omega) lr00 pi00 (Nat.zero_le _) hOB hP hD hS (lv_sub hl [0, 1, 2, 11, 10, 9, 8, 7, 6, 5, 4, 3] rfl)
-- ===== YOUR PART ENDS =====
set_option maxHeartbeats 4000000 in
theorem lw_walk (l : Launch) (hflags : l.flags = flags0) (b : Addr) (xs : List Int32) : MetFree l x (headSpec (Jvm.Cond.code x code maxLocals ret :: tables_1) room_1) (lw_P b xs) (fun _ _ _ _ _ => True) lw_Q := by
  refine MetFree.of_bodyS (code := code) (maxLocals := maxLocals) (ret := ret) (by decide) ?_ ?_
  · intro args s m h hn
    obtain ⟨meth, c, h1, h2, h3, h4, h5, h6, -, -⟩ := Cond.code_spec hn (atoms_spec (ws := Jvm.Cond.code x code maxLocals ret :: tables_1) h _ List.mem_cons_self)
    exact ⟨meth, c, h1, h2, h3, h4, h5, h6⟩
  · intro p e s m args below meth c s₁ B hml0 hP _
    obtain ⟨rfl, hx, hbd, hgv⟩ := hP
    obtain ⟨scr, harrAt, hlist, hof, hsmall⟩ := hx
    obtain ⟨hcb, hkn, -, -⟩ := State.arrayAt?_spec harrAt
    have hown : s.vm.findClass R_law = some m.cls := findClass_of_methodNamed B.named
    have hts0 : ∀ c ∈ (Jvm.Cond.code x code maxLocals ret :: tables_1), c.before #[Value.ref b] s = true := atoms_spec (ws := Jvm.Cond.code x code maxLocals ret :: tables_1) B.pre
    have hts : ∀ w ∈ lw_tbl, w.before #[Value.ref b] s = true := k2_hts_sels lw_privs (fun w hw => hts0 w (List.mem_cons_of_mem _ hw)) lw_privs_ok
    have hml : c.maxLocals = 12 := B.maxLocals_eq (hts0 _ List.mem_cons_self)
    have X₀ : Stand p l e room_1 s m #[Value.ref b] below meth c s₁ [] 0 0 := Stand.of_body B
    have hh0 : s₁.heap = s.heap := by rw [B.state]; rfl
    have hsz : scr.slots.size = xs.length := by rw [← Array.length_toList, hlist, List.length_map]
    have hval : ∀ j : Nat, j < xs.length → scr.slots[j]? = some (.int (xs.getD j 0)) := fun j hj => by
      rw [← Array.getElem?_toList, hlist]
      simp [hj]
    have hbl : b < s.heap.size := (Array.getElem?_eq_some_iff.mp hcb).1
    have hX : va_X b xs.length (fun j => xs.getD j 0) s s.heap := ⟨scr, hcb, hof, hkn, hsz, hval⟩
    have K : W p l e room_1 s m #[Value.ref b] below meth c s₁.heap [] 0 0 (lw_Z below #[Value.ref b] s) (entryFrame m ([Value.ref b] : List Value).toArray 12) := by
      rw [hh0]
      exact whole_start l hflags hbd ⟨B.exec, B.bytes, B.returns, hml, hown, hts, hX, hbl, B.notSynchronized, hgv⟩
    obtain ⟨t, a1, o, b1, b2, b3⟩ := K s₁ rfl X₀
    exact ⟨t, o, a1, b1, b2, b3⟩
theorem lw_pre_spec {args : Array Value} {s : State} (h : (Jvm.Cond.and given_1 narrow_1).before args s = true) (hr : rest_1_c.before args s = true) : ∃ (b : Addr) (xs : List Int32), lw_P b xs args s := by
  have hs := flat_of_before _ h
  have hq := flat_of_before _ hr
  have hc : (Cond.count 1).before args s = true := hs _ (by decide +kernel)
  have harr : (Cond.arrayOf (.arg 0) .int).before args s = true := hs _ (by decide +kernel)
  have hle : (Cond.le (.length (.arg 0)) (.int 260)).before args s = true := hs _ (by decide +kernel)
  have hlen : (Cond.isInt (.length (.arg 0))).before args s = true := hq _ (by decide +kernel)
  have hall : (Cond.all (.arg 0) (.isInt (.elem (.arg 0) (.index 0)))).before args s = true := hq _ (by decide +kernel)
  obtain ⟨b, xs, hb, hx⟩ := State.ints_of_pre rfl harr hlen hall
  have hsm : xs.length < 2 ^ 31 := hx.choose_spec.2.2.2
  have hev : (Term.length (.arg 0)).eval args s none [] s = some (.int xs.length.toInt32) := hx.length_eval hb
  have hv := Cond.le_ints hev (show (Term.int 260).eval args s none [] s = some (.int 260) from rfl)
  have hd : xs.length.toInt32 ≤ 260 := by
    simpa [Cond.before, Cond.holds, hv] using hle
  have hN : xs.length ≤ 260 := (Int32.ofNat_le_ofNat hsm (by decide)).mp (show Int32.ofNat xs.length ≤ Int32.ofNat 260 from hd)
  exact ⟨b, xs, Cond.one_arg hc (show args[0]? = some (.ref b) from hb), hx, hN, h⟩
theorem lw_comes (l : Launch) (hflags : l.flags = flags0) : Comes l x (Jvm.Cond.code x code maxLocals ret :: tables_1) room_1 (fun tb e args s => Calls_1 tb e args s ∧ rest_1 tb e args s ∧ Pre_1 tb e args s)
    (fun _ _ args s o t => lw_Q args s o t) := by
  intro p e ha hc hk s m args below hf hfit hheap happ hpre
  obtain ⟨b, xs, hP⟩ := lw_pre_spec hpre.2.2 hpre.2.1
  obtain ⟨k, o, h1, h2, h3, hQ⟩ := lw_walk l hflags b xs p e ha hc hk s m args below hf ((Spec.applies_iff_loose hf).mp happ).1 hP trivial
  exact ⟨k, o, h1, h2, h3, hQ⟩
theorem lw_frame {s t : State} {o : Outcome} {args : Array Value} (h : Framed s o t [] 600000 7302250) :
    Framed s o t (fieldLocs frame_1_writes args s ++ arrayLocs frame_1_arrays args s ++ staticLocs frame_1_statics s) 600000 7302250 := h
theorem lw_limb (L : Cond) (hL : ∀ (args : Array Value) (s t : State), L.after args s (.returned (some (.int 1))) t = true) :
    ArmFor flags0 classFile x code maxLocals ret World_1 tables_1 room_1 Calls_1 rest_1 Pre_1
      (fun tb e a s o t => postC L tb e a s o t ∧ Framed s o t (fieldLocs frame_1_writes a s ++ arrayLocs frame_1_arrays a s ++ staticLocs frame_1_statics s) 600000 7302250) := by
  intro l hflags _ _ p e ha hc hk s m args below hf hfit hheap happ hpre
  obtain ⟨k, o, h1, h2, h3, rfl, hF⟩ := lw_comes l hflags p e ha hc hk s m args below hf hfit hheap happ hpre
  exact ⟨k, _, h1, h2, h3, hL args s _, lw_frame hF⟩
theorem i_vc : Claimed_1_1 ∧ Claimed_1_2 := ⟨lw_limb limb_1_1 (fun args s t => by simp [limb_1_1, Cond.after, Cond.holds, Cond.value]), lw_limb limb_1_2 (fun args s t => Cond.after_iff.mpr (by
  first | (rw [show limb_1_2 = Cond.eq .result (.int 1) from rfl, Cond.eq_ints (x := 1) (y := 1) rfl rfl]; simp; done) | (simp [limb_1_2, Cond.value, Term.eval]; done)))⟩
