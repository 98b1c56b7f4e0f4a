section
/-! the partial functions of the methods (printed by wip/whole/gen) -/
def gd {β : Type} (c : Prop) [Decidable c] (x : Option β) : Option β := if c then x else none
theorem gd_s {β : Type} {c : Prop} [Decidable c] {x : Option β} {r : β} (h : gd c x = some r) : c ∧ x = some r := by
  unfold gd at h
  split at h
  · exact ⟨by assumption, h⟩
  · cases h
theorem gd_t {β : Type} {c : Prop} [Decidable c] {x : Option β} (h : c) : gd c x = x := if_pos h
theorem ob {α β : Type} {x : Option α} {f : α → Option β} {r : β} (h : x.bind f = some r) : ∃ a, x = some a ∧ f a = some r := Option.bind_eq_some_iff.mp h
theorem it {β : Type} {c : Prop} [Decidable c] {a b x : β} (hc : c) (h : (if c then a else b) = x) : a = x := by rwa [if_pos hc] at h
theorem ie {β : Type} {c : Prop} [Decidable c] {a b x : β} (hc : ¬ c) (h : (if c then a else b) = x) : b = x := by rwa [if_neg hc] at h
def lt {α β : Type} (x : α) (f : α → β) : β := f x
theorem lt_e {α β : Type} {x y : α} {f : α → β} {r : β} (e : y = x) (h : lt x f = r) : f y = r := by subst e; exact h
theorem lt_v {α β : Type} (x : α) (f : α → β) : lt x f = f x := rfl
def FU : Nat := 20000
def tbL : Nat → Int32 := fun j => match j with
  | 0 => 100
  | 3 => 30
  | 4 => 30
  | _ => 0
def tbM : Nat → Int32 := fun j => match j with
  | 0 => 600
  | 1 => 200
  | 2 => 100
  | 3 => 300
  | 4 => 300
  | _ => 1
noncomputable def f_X7_isZeroOrOne_J9 : Option (Int32) := some (1 : Int32)
noncomputable def f_X7_isZeroOrOne (x0 : Int32) : Option (Int32) := (if x0 = 0 then f_X7_isZeroOrOne_J9 else (if x0 = (1 : Int32) then f_X7_isZeroOrOne_J9 else some (0 : Int32)))
noncomputable def f_X7_fallOf (x0 : Int32) : Option (Int32) := (if (1 : Int32) ≤ x0 then (if (16 : Int32) ≤ x0 then some (x0 / (16 : Int32)) else some (1 : Int32)) else some (0 : Int32))
noncomputable def f_X7_flowOf (x0 : Int32) (x1 : Int32) : Option (Int32) := (if (10 : Int32) ≤ x1 then gd (¬ x1 = 0) (some ((x0 * (1000 : Int32)) / x1)) else some (0 : Int32))
noncomputable def f_X7_markOf_J22 (z0_22 : Int32) (z1_22 : Int32) : Option (Int32) := some (z1_22 ||| z0_22)
noncomputable def f_X7_markOf_J12 (y0_12 : Int32) (z0_12 : Int32) (z1_12 : Int32) : Option (Int32) := (if y0_12 = 0 then f_X7_markOf_J22 (0 : Int32) (z1_12 ||| z0_12) else f_X7_markOf_J22 (1 : Int32) (z1_12 ||| z0_12))
noncomputable def f_X7_markOf (x0 : Int32) (x1 : Int32) (x2 : Int32) : Option (Int32) := (if x1 = 0 then f_X7_markOf_J12 x0 (0 : Int32) (x2 <<< ((2 : Int32) &&& 31)) else f_X7_markOf_J12 x0 (2 : Int32) (x2 <<< ((2 : Int32) &&& 31)))
noncomputable def f_X7_kindOfMark (x0 : Int32) : Option (Int32) := some (x0 &&& (1 : Int32))
noncomputable def f_X7_burrOfMark (x0 : Int32) : Option (Int32) := some ((x0 &&& (2 : Int32)) >>> ((1 : Int32) &&& 31))
noncomputable def f_X7_gapOfMark (x0 : Int32) : Option (Int32) := some (x0 >>> ((2 : Int32) &&& 31))
noncomputable def f_X0_gapAt (x1 : Int32) (w : Int32) : Option (Int32) := lt ((if (10 : Int32) < (((10 : Int32) * x1) - (w / (5 : Int32))) then (((10 : Int32) * x1) - (w / (5 : Int32))) else (10 : Int32))) fun v1 => some v1
noncomputable def f_X0_gap (d : Int32) (w : Int32) : Option (Int32) := (f_X0_gapAt d w).bind fun q1 => some q1
noncomputable def f_X0_warmByGrinding (x1 : Int32) (w : Int32) (g : Int32) : Option (Int32 × Int32) := lt ((if (w + (x1 / (4 : Int32))) < (300 : Int32) then (w + (x1 / (4 : Int32))) else (300 : Int32))) fun v1 => lt ((g + x1)) fun v2 => some (v1, v2)
noncomputable def f_X0_cool_L2 (y1_2 : Int32) : Nat → Int32 → Int32 → Option (Int32)
  | 0, _, _ => none
  | fu + 1, y2_2, w_2 => (if y1_2 ≤ y2_2 then some w_2 else (if w_2 ≤ 0 then some w_2 else (f_X7_fallOf w_2).bind fun q3 => lt ((w_2 - q3)) fun v4 => lt (y2_2 + (1 : Int32)) fun v5 => (f_X0_cool_L2 y1_2 fu) v5 v4))
noncomputable def f_X0_cool (x1 : Int32) (w : Int32) : Option (Int32) := f_X0_cool_L2 x1 FU (0 : Int32) w
noncomputable def f_X0_coolingsTo_L7 (w : Int32) (y1_7 : Int32) : Nat → Int32 → Int32 → Option (Int32)
  | 0, _, _ => none
  | fu + 1, y2_7, y3_7 => (if y3_7 ≤ y1_7 then some y2_7 else (if (300 : Int32) ≤ y2_7 then some y2_7 else lt (y2_7 + (1 : Int32)) fun v3 => (f_X7_fallOf y3_7).bind fun q4 => lt ((y3_7 - q4)) fun v5 => (f_X0_coolingsTo_L7 w y1_7 fu) v3 v5))
noncomputable def f_X0_coolingsTo (x1 : Int32) (w : Int32) : Option (Int32) := f_X0_coolingsTo_L7 w x1 FU (0 : Int32) w
noncomputable def f_X0_correctBy (x1 : Int32) (x2 : Int32) (d : Int32) (k : Int32) : Option (Int32 × Int32) := lt ((if (1 : Int32) < x2 then x2 else (1 : Int32))) fun v1 => gd (¬ v1 = 0) (lt ((((d * x1) + (x2 / (2 : Int32))) / v1)) fun v3 => lt ((if v3 < (60 : Int32) then v3 else (60 : Int32))) fun v4 => lt ((if (1 : Int32) < v4 then v4 else (1 : Int32))) fun v5 => lt ((k + (1 : Int32))) fun v6 => some (v5, v6))
noncomputable def f_X0_tell (x1 : Int32) (d : Int32) (w : Int32) (g : Int32) (k : Int32) : Option (Int32) := (if x1 = 0 then some d else (if x1 = 1 then some w else (if x1 = 2 then (f_X0_gap d w).bind fun q4 => some q4 else (if x1 = 3 then some g else some k))))
noncomputable def f_X0_copyFrom (d : Int32) (w : Int32) (g : Int32) (k : Int32) (d2 : Int32) (w2 : Int32) (g2 : Int32) (k2 : Int32) : Option (Int32 × Int32 × Int32 × Int32) := some (d2, w2, g2, k2)
noncomputable def f_X5_clear (N : Nat) (n : Int32) (t : Int32) : Option (Int32 × Int32) := some ((0 : Int32), (0 : Int32))
noncomputable def f_X5_append (N : Nat) (x1 : Int32) (x2 : Int32) (A : Nat → Int32) (M : Nat → Int32) (n : Int32) (t : Int32) : Option ((Nat → Int32) × (Nat → Int32) × Int32 × Int32) := (if (nI N) ≤ n then some (A, M, n, t) else gd (¬ (n < 0 ∨ N ≤ n.toNatClampNeg)) (lt (upd A n.toNatClampNeg x1) fun Z3 => gd (¬ (n < 0 ∨ N ≤ n.toNatClampNeg)) (lt (upd M n.toNatClampNeg x2) fun Z5 => lt ((n + (1 : Int32))) fun v6 => lt ((t + x1)) fun v7 => some (Z3, Z5, v6, v7))))
noncomputable def f_X5_addToLast (N : Nat) (x1 : Int32) (A : Nat → Int32) (n : Int32) (t : Int32) : Option ((Nat → Int32) × Int32) := (if n ≤ 0 then some (A, t) else lt ((n - (1 : Int32))) fun v2 => gd (¬ (v2 < 0 ∨ N ≤ v2.toNatClampNeg)) (lt (((A v2.toNatClampNeg) + x1)) fun v4 => gd (¬ (v2 < 0 ∨ N ≤ v2.toNatClampNeg)) (lt (upd A v2.toNatClampNeg v4) fun Z6 => lt ((t + x1)) fun v7 => some (Z6, v7))))
noncomputable def f_X5_dropFirst (N : Nat) (x1 : Int32) (A : Nat → Int32) (M : Nat → Int32) (n : Int32) : Option ((Nat → Int32) × (Nat → Int32) × Int32) := lt ((n - x1)) fun v1 => gd (¬ x1 < 0 ∧ ¬ (0 : Int32) < 0 ∧ ¬ v1 < 0 ∧ x1.toNatClampNeg + v1.toNatClampNeg ≤ N ∧ (0 : Int32).toNatClampNeg + v1.toNatClampNeg ≤ N) (lt (va_cpy A A x1.toNatClampNeg (0 : Int32).toNatClampNeg v1.toNatClampNeg) fun Z3 => gd (¬ x1 < 0 ∧ ¬ (0 : Int32) < 0 ∧ ¬ v1 < 0 ∧ x1.toNatClampNeg + v1.toNatClampNeg ≤ N ∧ (0 : Int32).toNatClampNeg + v1.toNatClampNeg ≤ N) (lt (va_cpy M M x1.toNatClampNeg (0 : Int32).toNatClampNeg v1.toNatClampNeg) fun Z5 => some (Z3, Z5, v1)))
noncomputable def f_X5_amountAt_J12 (N : Nat) (A : Nat → Int32) (n : Int32) : Option (Int32) := some (0 : Int32)
noncomputable def f_X5_amountAt (N : Nat) (x1 : Int32) (A : Nat → Int32) (n : Int32) : Option (Int32) := (if x1 < 0 then f_X5_amountAt_J12 N A n else (if x1 < n then gd (¬ (x1 < 0 ∨ N ≤ x1.toNatClampNeg)) (some (A x1.toNatClampNeg)) else f_X5_amountAt_J12 N A n))
noncomputable def f_X5_markAt_J12 (N : Nat) (M : Nat → Int32) (n : Int32) : Option (Int32) := some (0 : Int32)
noncomputable def f_X5_markAt (N : Nat) (x1 : Int32) (M : Nat → Int32) (n : Int32) : Option (Int32) := (if x1 < 0 then f_X5_markAt_J12 N M n else (if x1 < n then gd (¬ (x1 < 0 ∨ N ≤ x1.toNatClampNeg)) (some (M x1.toNatClampNeg)) else f_X5_markAt_J12 N M n))
noncomputable def f_X5_isMostly_J34 (r4 : Int32 → Int32 → Option (Int32)) (N : Nat) (A : Nat → Int32) (M : Nat → Int32) (n : Int32) (t : Int32) (y1_4 : Int32) (y3_34 : Int32) (z0_34 : Int32) (z1_34 : Int32) : Option (Int32) := lt ((z1_34 + z0_34)) fun v6 => lt (y3_34 + (1 : Int32)) fun v7 => r4 v6 v7
noncomputable def f_X5_isMostly_L4 (N : Nat) (A : Nat → Int32) (M : Nat → Int32) (n : Int32) (t : Int32) (y1_4 : Int32) : Nat → Int32 → Int32 → Option (Int32)
  | 0, _, _ => none
  | fu + 1, y2_4, y3_4 => (if n ≤ y3_4 then (if y2_4 ≤ (t - y2_4) then some (0 : Int32) else some (1 : Int32)) else gd (¬ (y3_4 < 0 ∨ N ≤ y3_4.toNatClampNeg)) ((if ((M y3_4.toNatClampNeg) &&& y1_4) = 0 then f_X5_isMostly_J34 (f_X5_isMostly_L4 N A M n t y1_4 fu) N A M n t y1_4 y3_4 (0 : Int32) y2_4 else gd (¬ (y3_4 < 0 ∨ N ≤ y3_4.toNatClampNeg)) (f_X5_isMostly_J34 (f_X5_isMostly_L4 N A M n t y1_4 fu) N A M n t y1_4 y3_4 (A y3_4.toNatClampNeg) y2_4))))
noncomputable def f_X5_isMostly (N : Nat) (x1 : Int32) (A : Nat → Int32) (M : Nat → Int32) (n : Int32) (t : Int32) : Option (Int32) := f_X5_isMostly_L4 N A M n t x1 FU (0 : Int32) (0 : Int32)
noncomputable def f_X5_amountUpToLastUnlike_J39 (r7 : Int32 → Int32 → Int32 → Option (Int32)) (N : Nat) (A : Nat → Int32) (M : Nat → Int32) (n : Int32) (y1_7 : Int32) (y2_39 : Int32) (y3_39 : Int32) (y4_39 : Int32) : Option (Int32) := lt (y4_39 + (1 : Int32)) fun v6 => r7 y2_39 y3_39 v6
noncomputable def f_X5_amountUpToLastUnlike_L7 (N : Nat) (A : Nat → Int32) (M : Nat → Int32) (n : Int32) (y1_7 : Int32) : Nat → Int32 → Int32 → Int32 → Option (Int32)
  | 0, _, _, _ => none
  | fu + 1, y2_7, y3_7, y4_7 => (if n ≤ y4_7 then some y3_7 else gd (¬ (y4_7 < 0 ∨ N ≤ y4_7.toNatClampNeg)) (lt ((y2_7 + (A y4_7.toNatClampNeg))) fun v3 => gd (¬ (y4_7 < 0 ∨ N ≤ y4_7.toNatClampNeg)) ((if (M y4_7.toNatClampNeg) = y1_7 then f_X5_amountUpToLastUnlike_J39 (f_X5_amountUpToLastUnlike_L7 N A M n y1_7 fu) N A M n y1_7 v3 y3_7 y4_7 else f_X5_amountUpToLastUnlike_J39 (f_X5_amountUpToLastUnlike_L7 N A M n y1_7 fu) N A M n y1_7 v3 v3 y4_7))))
noncomputable def f_X5_amountUpToLastUnlike (N : Nat) (x1 : Int32) (A : Nat → Int32) (M : Nat → Int32) (n : Int32) : Option (Int32) := f_X5_amountUpToLastUnlike_L7 N A M n x1 FU (0 : Int32) (0 : Int32) (0 : Int32)
noncomputable def f_X5_copyFrom (N : Nat) (N2 : Nat) (A : Nat → Int32) (M : Nat → Int32) (n : Int32) (t : Int32) (A2 : Nat → Int32) (M2 : Nat → Int32) (n2 : Int32) (t2 : Int32) : Option ((Nat → Int32) × (Nat → Int32) × Int32 × Int32) := lt ((if (nI N) < n2 then (nI N) else n2)) fun v1 => gd (¬ (0 : Int32) < 0 ∧ ¬ (0 : Int32) < 0 ∧ ¬ v1 < 0 ∧ (0 : Int32).toNatClampNeg + v1.toNatClampNeg ≤ N2 ∧ (0 : Int32).toNatClampNeg + v1.toNatClampNeg ≤ N) (lt (va_cpy A2 A (0 : Int32).toNatClampNeg (0 : Int32).toNatClampNeg v1.toNatClampNeg) fun Z3 => gd (¬ (0 : Int32) < 0 ∧ ¬ (0 : Int32) < 0 ∧ ¬ v1 < 0 ∧ (0 : Int32).toNatClampNeg + v1.toNatClampNeg ≤ N2 ∧ (0 : Int32).toNatClampNeg + v1.toNatClampNeg ≤ N) (lt (va_cpy M2 M (0 : Int32).toNatClampNeg (0 : Int32).toNatClampNeg v1.toNatClampNeg) fun Z5 => some (Z3, Z5, v1, t2)))
noncomputable def f_X5_letOut_J90 (N : Nat) (N2 : Nat) (y1_90 : Int32) (y4_90 : Int32) (y5_90 : Int32) (A_90 : Nat → Int32) (M_90 : Nat → Int32) (n_90 : Int32) (t_90 : Int32) (A2_90 : Nat → Int32) (M2_90 : Nat → Int32) (n2_90 : Int32) (t2_90 : Int32) : Option ((Nat → Int32) × (Nat → Int32) × Int32 × Int32 × (Nat → Int32) × (Nat → Int32) × Int32 × Int32) := lt ((t_90 - (y1_90 - y4_90))) fun v15 => (f_X5_dropFirst N y5_90 A_90 M_90 n_90).bind fun q16 => some (q16.1, q16.2.1, q16.2.2, v15, A2_90, M2_90, n2_90, t2_90)
noncomputable def f_X5_letOut_J84 (r9 : Int32 → Int32 → Int32 → (Nat → Int32) → (Nat → Int32) → Int32 → Int32 → (Nat → Int32) → (Nat → Int32) → Int32 → Int32 → Option ((Nat → Int32) × (Nat → Int32) × Int32 × Int32 × (Nat → Int32) × (Nat → Int32) × Int32 × Int32)) (N : Nat) (N2 : Nat) (y1_9 : Int32) (y2_9 : Int32) (y4_84 : Int32) (y5_84 : Int32) (y6_84 : Int32) (A_84 : Nat → Int32) (M_84 : Nat → Int32) (n_84 : Int32) (t_84 : Int32) (A2_84 : Nat → Int32) (M2_84 : Nat → Int32) (n2_84 : Int32) (t2_84 : Int32) : Option ((Nat → Int32) × (Nat → Int32) × Int32 × Int32 × (Nat → Int32) × (Nat → Int32) × Int32 × Int32) := lt (y6_84 + (1 : Int32)) fun v17 => r9 y4_84 y5_84 v17 A_84 M_84 n_84 t_84 A2_84 M2_84 n2_84 t2_84
noncomputable def f_X5_letOut_L9 (N : Nat) (N2 : Nat) (y1_9 : Int32) (y2_9 : Int32) : Nat → Int32 → Int32 → Int32 → (Nat → Int32) → (Nat → Int32) → Int32 → Int32 → (Nat → Int32) → (Nat → Int32) → Int32 → Int32 → Option ((Nat → Int32) × (Nat → Int32) × Int32 × Int32 × (Nat → Int32) × (Nat → Int32) × Int32 × Int32)
  | 0, _, _, _, _, _, _, _, _, _, _, _ => none
  | fu + 1, y4_9, y5_9, y6_9, A_9, M_9, n_9, t_9, A2_9, M2_9, n2_9, t2_9 => (if n_9 ≤ y6_9 then f_X5_letOut_J90 N N2 y1_9 y4_9 y5_9 A_9 M_9 n_9 t_9 A2_9 M2_9 n2_9 t2_9 else (if y4_9 ≤ 0 then f_X5_letOut_J90 N N2 y1_9 y4_9 y5_9 A_9 M_9 n_9 t_9 A2_9 M2_9 n2_9 t2_9 else gd (¬ (y6_9 < 0 ∨ N ≤ y6_9.toNatClampNeg)) (lt ((if (A_9 y6_9.toNatClampNeg) < y4_9 then (A_9 y6_9.toNatClampNeg) else y4_9)) fun v4 => gd (¬ (y6_9 < 0 ∨ N ≤ y6_9.toNatClampNeg)) ((f_X5_append N2 v4 ((M_9 y6_9.toNatClampNeg) ||| y2_9) A2_9 M2_9 n2_9 t2_9).bind fun q6 => gd (¬ (y6_9 < 0 ∨ N ≤ y6_9.toNatClampNeg)) (lt (((A_9 y6_9.toNatClampNeg) - v4)) fun v8 => gd (¬ (y6_9 < 0 ∨ N ≤ y6_9.toNatClampNeg)) (lt (upd A_9 y6_9.toNatClampNeg v8) fun Z10 => lt ((y4_9 - v4)) fun v11 => gd (¬ (y6_9 < 0 ∨ N ≤ y6_9.toNatClampNeg)) ((if (Z10 y6_9.toNatClampNeg) = 0 then lt (y5_9 + (1 : Int32)) fun v14 => f_X5_letOut_J84 (f_X5_letOut_L9 N N2 y1_9 y2_9 fu) N N2 y1_9 y2_9 v11 v14 y6_9 Z10 M_9 n_9 t_9 q6.1 q6.2.1 q6.2.2.1 q6.2.2.2 else f_X5_letOut_J84 (f_X5_letOut_L9 N N2 y1_9 y2_9 fu) N N2 y1_9 y2_9 v11 y5_9 y6_9 Z10 M_9 n_9 t_9 q6.1 q6.2.1 q6.2.2.1 q6.2.2.2))))))))
noncomputable def f_X5_letOut (N : Nat) (N2 : Nat) (x1 : Int32) (x2 : Int32) (A : Nat → Int32) (M : Nat → Int32) (n : Int32) (t : Int32) (A2 : Nat → Int32) (M2 : Nat → Int32) (n2 : Int32) (t2 : Int32) : Option ((Nat → Int32) × (Nat → Int32) × Int32 × Int32 × (Nat → Int32) × (Nat → Int32) × Int32 × Int32) := f_X5_letOut_L9 N N2 x1 x2 FU x1 (0 : Int32) (0 : Int32) A M n t A2 M2 n2 t2
noncomputable def f_X3_amount (N : Nat) (t : Int32) : Option (Int32) := some t
noncomputable def f_X3_endsWith (N : Nat) (x1 : Int32) (M : Nat → Int32) (n : Int32) : Option (Int32) := (if n ≤ 0 then some (0 : Int32) else (f_X5_markAt N (n - (1 : Int32)) M n).bind fun q2 => (if q2 = x1 then some (1 : Int32) else some (0 : Int32)))
noncomputable def f_X3_hasRoomFor_J35 (N : Nat) (M : Nat → Int32) (n : Int32) (t : Int32) : Option (Int32) := some (1 : Int32)
noncomputable def f_X3_hasRoomFor (N : Nat) (x1 : Int32) (x2 : Int32) (M : Nat → Int32) (n : Int32) (t : Int32) : Option (Int32) := (if (4000 : Int32) < (t + x2) then some (0 : Int32) else (if n < (6 : Int32) then f_X3_hasRoomFor_J35 N M n t else (f_X3_endsWith N x1 M n).bind fun q3 => (if q3 = 0 then some (0 : Int32) else f_X3_hasRoomFor_J35 N M n t)))
noncomputable def f_X3_pourIn (N : Nat) (x1 : Int32) (x2 : Int32) (A : Nat → Int32) (M : Nat → Int32) (n : Int32) (t : Int32) : Option ((Nat → Int32) × (Nat → Int32) × Int32 × Int32) := (f_X3_endsWith N x1 M n).bind fun q1 => (if q1 = 0 then (f_X5_append N x2 x1 A M n t).bind fun q3 => some (q3.1, q3.2.1, q3.2.2.1, q3.2.2.2) else (f_X5_addToLast N x2 A n t).bind fun q4 => some (q4.1, M, n, q4.2))
noncomputable def f_X3_tell (N : Nat) (x1 : Int32) (x2 : Int32) (A : Nat → Int32) (M : Nat → Int32) (n : Int32) : Option (Int32) := (if x1 < 0 then some (-1000004 : Int32) else (if x1 < n then (if x2 = 0 then (f_X5_markAt N x1 M n).bind fun q5 => some q5 else (f_X5_amountAt N x1 A n).bind fun q4 => some q4) else some (-1000004 : Int32)))
noncomputable def f_X3_letOut (N : Nat) (N2 : Nat) (x1 : Int32) (x2 : Int32) (x3 : Int32) (A : Nat → Int32) (M : Nat → Int32) (n : Int32) (t : Int32) (A2 : Nat → Int32) (M2 : Nat → Int32) (n2 : Int32) (t2 : Int32) : Option ((Nat → Int32) × (Nat → Int32) × Int32 × Int32 × (Nat → Int32) × (Nat → Int32) × Int32 × Int32) := (f_X7_markOf (0 : Int32) x2 x3).bind fun q1 => (f_X5_letOut N N2 x1 q1 A M n t A2 M2 n2 t2).bind fun q2 => some (q2.1, q2.2.1, q2.2.2.1, q2.2.2.2.1, q2.2.2.2.2.1, q2.2.2.2.2.2.1, q2.2.2.2.2.2.2.1, q2.2.2.2.2.2.2.2)
noncomputable def f_X3_copyFrom (N : Nat) (N2 : Nat) (A : Nat → Int32) (M : Nat → Int32) (n : Int32) (t : Int32) (A2 : Nat → Int32) (M2 : Nat → Int32) (n2 : Int32) (t2 : Int32) : Option ((Nat → Int32) × (Nat → Int32) × Int32 × Int32) := (f_X5_copyFrom N N2 A M n t A2 M2 n2 t2).bind fun q1 => some (q1.1, q1.2.1, q1.2.2.1, q1.2.2.2)
noncomputable def f_X6_latestTime (sF : Nat → Int32) : Option (Int32) := some (sF (1 : Int32).toNatClampNeg)
noncomputable def f_X6_awayFrom (x1 : Int32) (x2 : Int32) (sF : Nat → Int32) : Option (Int32) := gd (¬ (((x2 * (8 : Int32)) + (1 : Int32)) < 0 ∨ 96 ≤ ((x2 * (8 : Int32)) + (1 : Int32)).toNatClampNeg)) (lt ((if 0 ≤ ((sF ((x2 * (8 : Int32)) + (1 : Int32)).toNatClampNeg) - x1) then ((sF ((x2 * (8 : Int32)) + (1 : Int32)).toNatClampNeg) - x1) else 0 - ((sF ((x2 * (8 : Int32)) + (1 : Int32)).toNatClampNeg) - x1))) fun v2 => some v2)
noncomputable def f_X6_placeOf_J52 (r13 : Int32 → Int32 → Option (Int32)) (sF : Nat → Int32) (sk : Int32) (y1_13 : Int32) (y2_13 : Int32) (y3_13 : Int32) (y4_52 : Int32) (y5_52 : Int32) : Option (Int32) := lt (y5_52 + (1 : Int32)) fun v8 => r13 y4_52 v8
noncomputable def f_X6_placeOf_J49 (r13 : Int32 → Int32 → Option (Int32)) (sF : Nat → Int32) (sk : Int32) (y1_13 : Int32) (y2_13 : Int32) (y3_13 : Int32) (y4_49 : Int32) (y5_49 : Int32) : Option (Int32) := lt (y4_49 + (1 : Int32)) fun v7 => f_X6_placeOf_J52 r13 sF sk y1_13 y2_13 y3_13 v7 y5_49
noncomputable def f_X6_placeOf_L13 (sF : Nat → Int32) (sk : Int32) (y1_13 : Int32) (y2_13 : Int32) (y3_13 : Int32) : Nat → Int32 → Int32 → Option (Int32)
  | 0, _, _ => none
  | fu + 1, y4_13, y5_13 => (if sk ≤ y5_13 then some y4_13 else (f_X6_awayFrom y2_13 y5_13 sF).bind fun q3 => (if q3 < y3_13 then f_X6_placeOf_J49 (f_X6_placeOf_L13 sF sk y1_13 y2_13 y3_13 fu) sF sk y1_13 y2_13 y3_13 y4_13 y5_13 else (if q3 = y3_13 then (if y1_13 ≤ y5_13 then f_X6_placeOf_J52 (f_X6_placeOf_L13 sF sk y1_13 y2_13 y3_13 fu) sF sk y1_13 y2_13 y3_13 y4_13 y5_13 else f_X6_placeOf_J49 (f_X6_placeOf_L13 sF sk y1_13 y2_13 y3_13 fu) sF sk y1_13 y2_13 y3_13 y4_13 y5_13) else f_X6_placeOf_J52 (f_X6_placeOf_L13 sF sk y1_13 y2_13 y3_13 fu) sF sk y1_13 y2_13 y3_13 y4_13 y5_13)))
noncomputable def f_X6_placeOf (x1 : Int32) (x2 : Int32) (sF : Nat → Int32) (sk : Int32) : Option (Int32) := (f_X6_awayFrom x2 x1 sF).bind fun q1 => f_X6_placeOf_L13 sF sk x1 x2 q1 FU (0 : Int32) (0 : Int32)
noncomputable def f_X6_tell (x1 : Int32) (x2 : Int32) (x3 : Int32) (sF : Nat → Int32) (sk : Int32) : Option (Int32) := (if x1 < 0 then some (-1000004 : Int32) else (if sk ≤ x1 then some (-1000004 : Int32) else (if x2 < 0 then some (-1000004 : Int32) else (if x2 < (8 : Int32) then (if x2 = (5 : Int32) then (f_X6_awayFrom x3 x1 sF).bind fun q7 => some q7 else gd (¬ (((x1 * (8 : Int32)) + x2) < 0 ∨ 96 ≤ ((x1 * (8 : Int32)) + x2).toNatClampNeg)) (some (sF ((x1 * (8 : Int32)) + x2).toNatClampNeg))) else some (-1000004 : Int32)))))
noncomputable def f_X6_numberAtPlace_L2 (sF : Nat → Int32) (sk : Int32) (y1_2 : Int32) (y2_2 : Int32) : Nat → Int32 → Option (Int32)
  | 0, _ => none
  | fu + 1, y3_2 => (if sk ≤ y3_2 then some (-1000004 : Int32) else (f_X6_placeOf y3_2 y2_2 sF sk).bind fun q2 => (if q2 = y1_2 then gd (¬ (((y3_2 * (8 : Int32)) + (0 : Int32)) < 0 ∨ 96 ≤ ((y3_2 * (8 : Int32)) + (0 : Int32)).toNatClampNeg)) (some (sF ((y3_2 * (8 : Int32)) + (0 : Int32)).toNatClampNeg)) else lt (y3_2 + (1 : Int32)) fun v4 => (f_X6_numberAtPlace_L2 sF sk y1_2 y2_2 fu) v4))
noncomputable def f_X6_numberAtPlace (x1 : Int32) (x2 : Int32) (sF : Nat → Int32) (sk : Int32) : Option (Int32) := f_X6_numberAtPlace_L2 sF sk x1 x2 FU (0 : Int32)
noncomputable def f_X6_add (x1 : Int32) (x2 : Int32) (x3 : Int32) (x4 : Int32) (x5 : Int32) (x6 : Int32) (sF : Nat → Int32) (sk : Int32) (sm : Int32) : Option ((Nat → Int32) × Int32 × Int32) := gd (¬ (0 : Int32) < 0 ∧ ¬ (8 : Int32) < 0 ∧ ¬ ((96 : Int32) - (8 : Int32)) < 0 ∧ (0 : Int32).toNatClampNeg + ((96 : Int32) - (8 : Int32)).toNatClampNeg ≤ 96 ∧ (8 : Int32).toNatClampNeg + ((96 : Int32) - (8 : Int32)).toNatClampNeg ≤ 96) (lt (va_cpy sF sF (0 : Int32).toNatClampNeg (8 : Int32).toNatClampNeg ((96 : Int32) - (8 : Int32)).toNatClampNeg) fun Z2 => lt (upd Z2 (0 : Int32).toNatClampNeg sm) fun Z3 => lt (upd Z3 (1 : Int32).toNatClampNeg x1) fun Z4 => lt (upd Z4 (2 : Int32).toNatClampNeg x2) fun Z5 => lt (upd Z5 (3 : Int32).toNatClampNeg x3) fun Z6 => lt (upd Z6 (4 : Int32).toNatClampNeg x4) fun Z7 => lt (upd Z7 (6 : Int32).toNatClampNeg x5) fun Z8 => lt (upd Z8 (7 : Int32).toNatClampNeg x6) fun Z9 => lt ((if (sk + (1 : Int32)) < (12 : Int32) then (sk + (1 : Int32)) else (12 : Int32))) fun v10 => lt ((sm + (1 : Int32))) fun v11 => some (Z9, v10, v11))
noncomputable def f_X6_copyFrom (sF : Nat → Int32) (sk : Int32) (sm : Int32) (sF2 : Nat → Int32) (sk2 : Int32) (sm2 : Int32) : Option ((Nat → Int32) × Int32 × Int32) := gd (¬ (0 : Int32) < 0 ∧ ¬ (0 : Int32) < 0 ∧ ¬ (96 : Int32) < 0 ∧ (0 : Int32).toNatClampNeg + (96 : Int32).toNatClampNeg ≤ 96 ∧ (0 : Int32).toNatClampNeg + (96 : Int32).toNatClampNeg ≤ 96) (lt (va_cpy sF2 sF (0 : Int32).toNatClampNeg (0 : Int32).toNatClampNeg (96 : Int32).toNatClampNeg) fun Z2 => some (Z2, sk2, sm2))
abbrev Gr : Type := (Nat → Int32) × (Nat → Int32) × Int32 × Int32 × Int32 × Int32 × Int32 × Int32 × Int32 × Int32 × Int32 × Int32 × (Nat → Int32) × (Nat → Int32) × Int32 × Int32 × (Nat → Int32) × (Nat → Int32) × Int32 × Int32 × (Nat → Int32) × Int32 × Int32 × (Nat → Int32) × Int32 × Int32 × Int32 × Int32 × Int32 × Int32
noncomputable def f_X1_hardnessOf (x1 : Int32) (st : Nat → Int32) : Option (Int32) := (if x1 = 0 then some (st (3 : Int32).toNatClampNeg) else some (st (4 : Int32).toNatClampNeg))
noncomputable def f_X1_flowOfMark (x1 : Int32) (st : Nat → Int32) : Option (Int32) := (f_X7_kindOfMark x1).bind fun q1 => (f_X1_hardnessOf q1 st).bind fun q2 => (f_X7_gapOfMark x1).bind fun q3 => (f_X7_flowOf q2 q3).bind fun q4 => some q4
noncomputable def f_X1_timeOfBasket_L18 (uA : Nat → Int32) (uM : Nat → Int32) (un : Int32) (ut : Int32) (st : Nat → Int32) : Nat → Int32 → Int32 → Option (Int32)
  | 0, _, _ => none
  | fu + 1, y1_18, y2_18 => (if un ≤ y2_18 then gd (¬ ut = 0) (some (y1_18 / ut)) else (f_X5_amountAt 400 y2_18 uA un).bind fun q4 => (f_X5_markAt 400 y2_18 uM un).bind fun q5 => (f_X1_flowOfMark q5 st).bind fun q6 => lt ((y1_18 + (q4 * q6))) fun v7 => lt (y2_18 + (1 : Int32)) fun v8 => (f_X1_timeOfBasket_L18 uA uM un ut st fu) v7 v8)
noncomputable def f_X1_timeOfBasket (uA : Nat → Int32) (uM : Nat → Int32) (un : Int32) (ut : Int32) (st : Nat → Int32) : Option (Int32) := (if (1 : Int32) ≤ ut then f_X1_timeOfBasket_L18 uA uM un ut st FU (0 : Int32) (0 : Int32) else some (-1000002 : Int32))
noncomputable def f_X1_passSeconds (x1 : Int32) (w0 : Int32) (w1 : Int32) (se : Int32) : Option (Int32 × Int32 × Int32) := lt ((((se + x1) / (10 : Int32)) - (se / (10 : Int32)))) fun v1 => (f_X0_cool v1 w0).bind fun q2 => (f_X0_cool v1 w1).bind fun q3 => lt ((se + x1)) fun v4 => some (q2, q3, v4)
noncomputable def f_X1_letPass (x1 : Int32) (w0 : Int32) (w1 : Int32) (se : Int32) : Option (Int32 × Int32 × Int32 × Int32) := (if x1 < (1 : Int32) then some ((-1000001 : Int32), w0, w1, se) else (if x1 ≤ (999 : Int32) then lt ((w0 + w1)) fun v3 => (f_X1_passSeconds x1 w0 w1 se).bind fun q4 => some (((v3 - q4.1) - q4.2.1), q4.1, q4.2.1, q4.2.2) else some ((-1000001 : Int32), w0, w1, se)))
noncomputable def f_X1_fillIn (x1 : Int32) (x2 : Int32) (pA : Nat → Int32) (pM : Nat → Int32) (pn : Int32) (pt : Int32) (fi : Int32) : Option (Int32 × (Nat → Int32) × (Nat → Int32) × Int32 × Int32 × Int32) := (f_X7_isZeroOrOne x1).bind fun q1 => (if q1 = 0 then some ((-1000001 : Int32), pA, pM, pn, pt, fi) else (if x2 < (1 : Int32) then some ((-1000001 : Int32), pA, pM, pn, pt, fi) else (if x2 ≤ (999 : Int32) then (f_X3_hasRoomFor 6 x1 x2 pM pn pt).bind fun q5 => (if q5 = 0 then some ((-1000003 : Int32), pA, pM, pn, pt, fi) else (f_X3_pourIn 6 x1 x2 pA pM pn pt).bind fun q7 => lt ((fi + x2)) fun v8 => (f_X3_amount 6 q7.2.2.2).bind fun q9 => some (q9, q7.1, q7.2.1, q7.2.2.1, q7.2.2.2, v8)) else some ((-1000001 : Int32), pA, pM, pn, pt, fi))))
noncomputable def f_X1_turnDial (x1 : Int32) (x2 : Int32) (d0 : Int32) (d1 : Int32) : Option (Int32 × Int32 × Int32) := (f_X7_isZeroOrOne x1).bind fun q1 => (if q1 = 0 then some ((-1000001 : Int32), d0, d1) else (if x2 < (1 : Int32) then some ((-1000001 : Int32), d0, d1) else (if x2 ≤ (60 : Int32) then (if x1 = 0 then some (d0, x2, d1) else some (d1, d0, x2)) else some ((-1000001 : Int32), d0, d1))))
noncomputable def f_X1_emptyChute (qn : Int32) (qt : Int32) (pu : Int32) : Option (Int32 × Int32 × Int32 × Int32) := (f_X5_clear 106 qn qt).bind fun q1 => lt ((pu + qt)) fun v2 => some (qt, q1.1, q1.2, v2)
noncomputable def f_X1_grindBy (x1 : Int32) (x2 : Int32) (pA : Nat → Int32) (pM : Nat → Int32) (pn : Int32) (pt : Int32) (d0 : Int32) (w0 : Int32) (g0 : Int32) (d1 : Int32) (w1 : Int32) (g1 : Int32) (qA : Nat → Int32) (qM : Nat → Int32) (qn : Int32) (qt : Int32) (uA : Nat → Int32) (uM : Nat → Int32) (un : Int32) (ut : Int32) (st : Nat → Int32) (se : Int32) (gr : Int32) : Option (Int32 × (Nat → Int32) × (Nat → Int32) × Int32 × Int32 × Int32 × Int32 × Int32 × Int32 × (Nat → Int32) × (Nat → Int32) × Int32 × Int32 × (Nat → Int32) × (Nat → Int32) × Int32 × Int32 × Int32 × Int32) := (f_X7_isZeroOrOne x1).bind fun q1 => (if q1 = 0 then some ((-1000001 : Int32), pA, pM, pn, pt, w0, g0, w1, g1, qA, qM, qn, qt, uA, uM, un, ut, se, gr) else (if x2 < (1 : Int32) then some ((-1000001 : Int32), pA, pM, pn, pt, w0, g0, w1, g1, qA, qM, qn, qt, uA, uM, un, ut, se, gr) else (if x2 ≤ (400 : Int32) then (f_X3_amount 6 pt).bind fun q5 => (if x2 ≤ q5 then lt ((if (0 : Int32) < ((qt + x2) - (st (2 : Int32).toNatClampNeg)) then ((qt + x2) - (st (2 : Int32).toNatClampNeg)) else (0 : Int32))) fun v7 => (if (ut + v7) ≤ (400 : Int32) then (if x1 = 0 then (f_X0_gap d0 w0).bind fun q10 => (f_X3_letOut 6 106 x2 x1 q10 pA pM pn pt qA qM qn qt).bind fun q11 => (f_X0_warmByGrinding x2 w0 g0).bind fun q12 => (f_X5_letOut 106 400 v7 (0 : Int32) q11.2.2.2.2.1 q11.2.2.2.2.2.1 q11.2.2.2.2.2.2.1 q11.2.2.2.2.2.2.2 uA uM un ut).bind fun q13 => lt ((gr + x2)) fun v14 => (f_X1_passSeconds ((x2 + (9 : Int32)) / (10 : Int32)) q12.1 w1 se).bind fun q15 => some (v7, q11.1, q11.2.1, q11.2.2.1, q11.2.2.2.1, q15.1, q12.2, q15.2.1, g1, q13.1, q13.2.1, q13.2.2.1, q13.2.2.2.1, q13.2.2.2.2.1, q13.2.2.2.2.2.1, q13.2.2.2.2.2.2.1, q13.2.2.2.2.2.2.2, q15.2.2, v14) else (f_X0_gap d1 w1).bind fun q16 => (f_X3_letOut 6 106 x2 x1 q16 pA pM pn pt qA qM qn qt).bind fun q17 => (f_X0_warmByGrinding x2 w1 g1).bind fun q18 => (f_X5_letOut 106 400 v7 (0 : Int32) q17.2.2.2.2.1 q17.2.2.2.2.2.1 q17.2.2.2.2.2.2.1 q17.2.2.2.2.2.2.2 uA uM un ut).bind fun q19 => lt ((gr + x2)) fun v20 => (f_X1_passSeconds ((x2 + (9 : Int32)) / (10 : Int32)) w0 q18.1 se).bind fun q21 => some (v7, q17.1, q17.2.1, q17.2.2.1, q17.2.2.2.1, q21.1, g0, q21.2.1, q18.2, q19.1, q19.2.1, q19.2.2.1, q19.2.2.2.1, q19.2.2.2.2.1, q19.2.2.2.2.2.1, q19.2.2.2.2.2.2.1, q19.2.2.2.2.2.2.2, q21.2.2, v20)) else some ((-1000003 : Int32), pA, pM, pn, pt, w0, g0, w1, g1, qA, qM, qn, qt, uA, uM, un, ut, se, gr)) else some ((-1000002 : Int32), pA, pM, pn, pt, w0, g0, w1, g1, qA, qM, qn, qt, uA, uM, un, ut, se, gr)) else some ((-1000001 : Int32), pA, pM, pn, pt, w0, g0, w1, g1, qA, qM, qn, qt, uA, uM, un, ut, se, gr))))
noncomputable def f_X1_judge_0 (x1 : Int32) (d0 : Int32) (k0 : Int32) (st : Nat → Int32) (nr : Int32) : Option (Int32 × Int32 × Int32) := lt ((if 0 ≤ (x1 - (st (0 : Int32).toNatClampNeg)) then (x1 - (st (0 : Int32).toNatClampNeg)) else 0 - (x1 - (st (0 : Int32).toNatClampNeg)))) fun v1 => (if (st (1 : Int32).toNatClampNeg) < v1 then (if (st (5 : Int32).toNatClampNeg) = (1 : Int32) then (f_X0_correctBy x1 (st (0 : Int32).toNatClampNeg) d0 k0).bind fun q4 => some (q4.1, q4.2, nr) else some (d0, k0, nr)) else lt ((nr + (1 : Int32))) fun v5 => some (d0, k0, v5))
noncomputable def f_X1_judge_1 (x1 : Int32) (d1 : Int32) (k1 : Int32) (st : Nat → Int32) (nr : Int32) : Option (Int32 × Int32 × Int32) := lt ((if 0 ≤ (x1 - (st (0 : Int32).toNatClampNeg)) then (x1 - (st (0 : Int32).toNatClampNeg)) else 0 - (x1 - (st (0 : Int32).toNatClampNeg)))) fun v1 => (if (st (1 : Int32).toNatClampNeg) < v1 then (if (st (5 : Int32).toNatClampNeg) = (1 : Int32) then (f_X0_correctBy x1 (st (0 : Int32).toNatClampNeg) d1 k1).bind fun q4 => some (q4.1, q4.2, nr) else some (d1, k1, nr)) else lt ((nr + (1 : Int32))) fun v5 => some (d1, k1, v5))
noncomputable def f_X1_makeShot_J44 (uA : Nat → Int32) (uM : Nat → Int32) (st : Nat → Int32) (y1_44 : Int32) (y2_44 : Int32) (z0_44 : Int32) (d0_44 : Int32) (w0_44 : Int32) (k0_44 : Int32) (d1_44 : Int32) (w1_44 : Int32) (k1_44 : Int32) (un_44 : Int32) (ut_44 : Int32) (sF_44 : Nat → Int32) (sk_44 : Int32) (sm_44 : Int32) (se_44 : Int32) (br_44 : Int32) (nr_44 : Int32) : Option (Int32 × Int32 × Int32 × Int32 × Int32 × Int32 × Int32 × Int32 × Int32 × (Nat → Int32) × Int32 × Int32 × Int32 × Int32 × Int32) := (f_X6_add y1_44 ut_44 y2_44 z0_44 se_44 un_44 sF_44 sk_44 sm_44).bind fun q7 => lt ((br_44 + ut_44)) fun v8 => (f_X5_clear 400 un_44 ut_44).bind fun q9 => (if y2_44 = 0 then (f_X1_judge_0 y1_44 d0_44 k0_44 st nr_44).bind fun q11 => (f_X1_passSeconds (y1_44 / (10 : Int32)) w0_44 w1_44 se_44).bind fun q12 => some (y1_44, q11.1, q12.1, q11.2.1, d1_44, q12.2.1, k1_44, q9.1, q9.2, q7.1, q7.2.1, q7.2.2, q12.2.2, v8, q11.2.2) else (f_X1_judge_1 y1_44 d1_44 k1_44 st nr_44).bind fun q13 => (f_X1_passSeconds (y1_44 / (10 : Int32)) w0_44 w1_44 se_44).bind fun q14 => some (y1_44, d0_44, q14.1, k0_44, q13.1, q14.2.1, q13.2.1, q9.1, q9.2, q7.1, q7.2.1, q7.2.2, q14.2.2, v8, q13.2.2))
noncomputable def f_X1_makeShot_J27 (uA : Nat → Int32) (uM : Nat → Int32) (st : Nat → Int32) (y1_27 : Int32) (z0_27 : Int32) (d0_27 : Int32) (w0_27 : Int32) (k0_27 : Int32) (d1_27 : Int32) (w1_27 : Int32) (k1_27 : Int32) (un_27 : Int32) (ut_27 : Int32) (sF_27 : Nat → Int32) (sk_27 : Int32) (sm_27 : Int32) (se_27 : Int32) (br_27 : Int32) (nr_27 : Int32) : Option (Int32 × Int32 × Int32 × Int32 × Int32 × Int32 × Int32 × Int32 × Int32 × (Nat → Int32) × Int32 × Int32 × Int32 × Int32 × Int32) := (f_X5_isMostly 400 (1 : Int32) uA uM un_27 ut_27).bind fun q5 => (if q5 = 0 then f_X1_makeShot_J44 uA uM st y1_27 z0_27 (0 : Int32) d0_27 w0_27 k0_27 d1_27 w1_27 k1_27 un_27 ut_27 sF_27 sk_27 sm_27 se_27 br_27 nr_27 else f_X1_makeShot_J44 uA uM st y1_27 z0_27 (1 : Int32) d0_27 w0_27 k0_27 d1_27 w1_27 k1_27 un_27 ut_27 sF_27 sk_27 sm_27 se_27 br_27 nr_27)
noncomputable def f_X1_makeShot (d0 : Int32) (w0 : Int32) (k0 : Int32) (d1 : Int32) (w1 : Int32) (k1 : Int32) (uA : Nat → Int32) (uM : Nat → Int32) (un : Int32) (ut : Int32) (sF : Nat → Int32) (sk : Int32) (sm : Int32) (st : Nat → Int32) (se : Int32) (br : Int32) (nr : Int32) : Option (Int32 × Int32 × Int32 × Int32 × Int32 × Int32 × Int32 × Int32 × Int32 × (Nat → Int32) × Int32 × Int32 × Int32 × Int32 × Int32) := (f_X1_timeOfBasket uA uM un ut st).bind fun q1 => (if 0 ≤ q1 then (f_X5_isMostly 400 (2 : Int32) uA uM un ut).bind fun q3 => (if q3 = 0 then f_X1_makeShot_J27 uA uM st q1 (0 : Int32) d0 w0 k0 d1 w1 k1 un ut sF sk sm se br nr else f_X1_makeShot_J27 uA uM st q1 (1 : Int32) d0 w0 k0 d1 w1 k1 un ut sF sk sm se br nr) else some (q1, d0, w0, k0, d1, w1, k1, un, ut, sF, sk, sm, se, br, nr))
noncomputable def f_X1_correctByLatest (x1 : Int32) (d0 : Int32) (k0 : Int32) (d1 : Int32) (k1 : Int32) (sF : Nat → Int32) (sk : Int32) (st : Nat → Int32) : Option (Int32 × Int32 × Int32 × Int32 × Int32) := (f_X7_isZeroOrOne x1).bind fun q1 => (if q1 = 0 then some ((-1000001 : Int32), d0, k0, d1, k1) else (if (1 : Int32) ≤ sk then (if x1 = 0 then (f_X6_latestTime sF).bind fun q5 => (f_X0_correctBy q5 (st (0 : Int32).toNatClampNeg) d0 k0).bind fun q6 => some (q6.1, q6.1, q6.2, d1, k1) else (f_X6_latestTime sF).bind fun q7 => (f_X0_correctBy q7 (st (0 : Int32).toNatClampNeg) d1 k1).bind fun q8 => some (q8.1, d0, k0, q8.1, q8.2)) else some ((-1000002 : Int32), d0, k0, d1, k1)))
noncomputable def f_X1_changeSetting (x1 : Int32) (x2 : Int32) (st : Nat → Int32) : Option (Int32 × (Nat → Int32)) := (if x1 < 0 then some ((-1000001 : Int32), st) else (if (6 : Int32) ≤ x1 then some ((-1000001 : Int32), st) else gd (¬ (x1 < 0 ∨ 6 ≤ x1.toNatClampNeg)) ((if x2 < (tbL x1.toNatClampNeg) then some ((-1000001 : Int32), st) else gd (¬ (x1 < 0 ∨ 6 ≤ x1.toNatClampNeg)) ((if x2 ≤ (tbM x1.toNatClampNeg) then gd (¬ (x1 < 0 ∨ 6 ≤ x1.toNatClampNeg)) (lt ((st x1.toNatClampNeg)) fun v8 => gd (¬ (x1 < 0 ∨ 6 ≤ x1.toNatClampNeg)) (lt (upd st x1.toNatClampNeg x2) fun Z10 => some (v8, Z10))) else some ((-1000001 : Int32), st)))))))
noncomputable def f_X1_tellSetting (x1 : Int32) (st : Nat → Int32) : Option (Int32) := (if x1 < (20 : Int32) then some (-1000001 : Int32) else (if x1 < ((20 : Int32) + (6 : Int32)) then gd (¬ ((x1 - (20 : Int32)) < 0 ∨ 6 ≤ (x1 - (20 : Int32)).toNatClampNeg)) (some (st (x1 - (20 : Int32)).toNatClampNeg)) else some (-1000001 : Int32)))
noncomputable def f_X1_tell (x1 : Int32) (pt : Int32) (qt : Int32) (ut : Int32) (sm : Int32) (st : Nat → Int32) (se : Int32) (fi : Int32) (gr : Int32) (br : Int32) (pu : Int32) (nr : Int32) : Option (Int32) := (if x1 = 0 then some se else (if x1 = 1 then some fi else (if x1 = 2 then some gr else (if x1 = 3 then some br else (if x1 = 4 then some pu else (if x1 = 5 then (f_X3_amount 6 pt).bind fun q7 => some q7 else (if x1 = 6 then some qt else (if x1 = 7 then some ut else (if x1 = 8 then some sm else (if x1 = 9 then some nr else (f_X1_tellSetting x1 st).bind fun q12 => some q12))))))))))
noncomputable def f_X1_tellPortion_q (x2 : Int32) (x3 : Int32) (qA : Nat → Int32) (qM : Nat → Int32) (qn : Int32) (st : Nat → Int32) : Option (Int32) := (if x2 < qn then (f_X5_markAt 106 x2 qM qn).bind fun q2 => (if x3 = 0 then (f_X5_amountAt 106 x2 qA qn).bind fun q4 => some q4 else (if x3 = 1 then (f_X7_kindOfMark q2).bind fun q6 => some q6 else (if x3 = 2 then (f_X7_burrOfMark q2).bind fun q8 => some q8 else (if x3 = 3 then (f_X7_gapOfMark q2).bind fun q10 => some q10 else (f_X1_flowOfMark q2 st).bind fun q11 => some q11)))) else some (-1000004 : Int32))
noncomputable def f_X1_tellPortion_u (x2 : Int32) (x3 : Int32) (uA : Nat → Int32) (uM : Nat → Int32) (un : Int32) (st : Nat → Int32) : Option (Int32) := (if x2 < un then (f_X5_markAt 400 x2 uM un).bind fun q2 => (if x3 = 0 then (f_X5_amountAt 400 x2 uA un).bind fun q4 => some q4 else (if x3 = 1 then (f_X7_kindOfMark q2).bind fun q6 => some q6 else (if x3 = 2 then (f_X7_burrOfMark q2).bind fun q8 => some q8 else (if x3 = 3 then (f_X7_gapOfMark q2).bind fun q10 => some q10 else (f_X1_flowOfMark q2 st).bind fun q11 => some q11)))) else some (-1000004 : Int32))
noncomputable def f_X1_copyFrom (pA : Nat → Int32) (pM : Nat → Int32) (pn : Int32) (pt : Int32) (d0 : Int32) (w0 : Int32) (g0 : Int32) (k0 : Int32) (d1 : Int32) (w1 : Int32) (g1 : Int32) (k1 : Int32) (qA : Nat → Int32) (qM : Nat → Int32) (qn : Int32) (qt : Int32) (uA : Nat → Int32) (uM : Nat → Int32) (un : Int32) (ut : Int32) (sF : Nat → Int32) (sk : Int32) (sm : Int32) (st : Nat → Int32) (se : Int32) (fi : Int32) (gr : Int32) (br : Int32) (pu : Int32) (nr : Int32) (opA : Nat → Int32) (opM : Nat → Int32) (opn : Int32) (opt : Int32) (od0 : Int32) (ow0 : Int32) (og0 : Int32) (ok0 : Int32) (od1 : Int32) (ow1 : Int32) (og1 : Int32) (ok1 : Int32) (oqA : Nat → Int32) (oqM : Nat → Int32) (oqn : Int32) (oqt : Int32) (ouA : Nat → Int32) (ouM : Nat → Int32) (oun : Int32) (out : Int32) (osF : Nat → Int32) (osk : Int32) (osm : Int32) (ost : Nat → Int32) (ose : Int32) (ofi : Int32) (ogr : Int32) (obr : Int32) (opu : Int32) (onr : Int32) : Option ((Nat → Int32) × (Nat → Int32) × Int32 × Int32 × Int32 × Int32 × Int32 × Int32 × Int32 × Int32 × Int32 × Int32 × (Nat → Int32) × (Nat → Int32) × Int32 × Int32 × (Nat → Int32) × (Nat → Int32) × Int32 × Int32 × (Nat → Int32) × Int32 × Int32 × (Nat → Int32) × Int32 × Int32 × Int32 × Int32 × Int32 × Int32) := (f_X3_copyFrom 6 6 pA pM pn pt opA opM opn opt).bind fun q1 => (f_X0_copyFrom d0 w0 g0 k0 od0 ow0 og0 ok0).bind fun q2 => (f_X0_copyFrom d1 w1 g1 k1 od1 ow1 og1 ok1).bind fun q3 => (f_X5_copyFrom 106 106 qA qM qn qt oqA oqM oqn oqt).bind fun q4 => (f_X5_copyFrom 400 400 uA uM un ut ouA ouM oun out).bind fun q5 => (f_X6_copyFrom sF sk sm osF osk osm).bind fun q6 => gd (¬ (0 : Int32) < 0 ∧ ¬ (0 : Int32) < 0 ∧ ¬ (6 : Int32) < 0 ∧ (0 : Int32).toNatClampNeg + (6 : Int32).toNatClampNeg ≤ 6 ∧ (0 : Int32).toNatClampNeg + (6 : Int32).toNatClampNeg ≤ 6) (lt (va_cpy ost st (0 : Int32).toNatClampNeg (0 : Int32).toNatClampNeg (6 : Int32).toNatClampNeg) fun Z8 => some (q1.1, q1.2.1, q1.2.2.1, q1.2.2.2, q2.1, q2.2.1, q2.2.2.1, q2.2.2.2, q3.1, q3.2.1, q3.2.2.1, q3.2.2.2, q4.1, q4.2.1, q4.2.2.1, q4.2.2.2, q5.1, q5.2.1, q5.2.2.1, q5.2.2.2, q6.1, q6.2.1, q6.2.2, Z8, ose, ofi, ogr, obr, opu, onr))
noncomputable def F_X1_fillIn (x1 : Int32) (x2 : Int32) (g : Gr) : Option (Int32 × Gr) := (f_X1_fillIn x1 x2 g.1 g.2.1 g.2.2.1 g.2.2.2.1 g.2.2.2.2.2.2.2.2.2.2.2.2.2.2.2.2.2.2.2.2.2.2.2.2.2.1).bind fun q => some (q.1, (q.2.1, q.2.2.1, q.2.2.2.1, q.2.2.2.2.1, g.2.2.2.2.1, g.2.2.2.2.2.1, g.2.2.2.2.2.2.1, g.2.2.2.2.2.2.2.1, g.2.2.2.2.2.2.2.2.1, g.2.2.2.2.2.2.2.2.2.1, g.2.2.2.2.2.2.2.2.2.2.1, g.2.2.2.2.2.2.2.2.2.2.2.1, g.2.2.2.2.2.2.2.2.2.2.2.2.1, g.2.2.2.2.2.2.2.2.2.2.2.2.2.1, g.2.2.2.2.2.2.2.2.2.2.2.2.2.2.1, g.2.2.2.2.2.2.2.2.2.2.2.2.2.2.2.1, g.2.2.2.2.2.2.2.2.2.2.2.2.2.2.2.2.1, g.2.2.2.2.2.2.2.2.2.2.2.2.2.2.2.2.2.1, g.2.2.2.2.2.2.2.2.2.2.2.2.2.2.2.2.2.2.1, g.2.2.2.2.2.2.2.2.2.2.2.2.2.2.2.2.2.2.2.1, g.2.2.2.2.2.2.2.2.2.2.2.2.2.2.2.2.2.2.2.2.1, g.2.2.2.2.2.2.2.2.2.2.2.2.2.2.2.2.2.2.2.2.2.1, g.2.2.2.2.2.2.2.2.2.2.2.2.2.2.2.2.2.2.2.2.2.2.1, g.2.2.2.2.2.2.2.2.2.2.2.2.2.2.2.2.2.2.2.2.2.2.2.1, g.2.2.2.2.2.2.2.2.2.2.2.2.2.2.2.2.2.2.2.2.2.2.2.2.1, q.2.2.2.2.2, g.2.2.2.2.2.2.2.2.2.2.2.2.2.2.2.2.2.2.2.2.2.2.2.2.2.2.1, g.2.2.2.2.2.2.2.2.2.2.2.2.2.2.2.2.2.2.2.2.2.2.2.2.2.2.2.1, g.2.2.2.2.2.2.2.2.2.2.2.2.2.2.2.2.2.2.2.2.2.2.2.2.2.2.2.2.1, g.2.2.2.2.2.2.2.2.2.2.2.2.2.2.2.2.2.2.2.2.2.2.2.2.2.2.2.2.2))
noncomputable def F_X1_grindBy (x1 : Int32) (x2 : Int32) (g : Gr) : Option (Int32 × Gr) := (f_X1_grindBy x1 x2 g.1 g.2.1 g.2.2.1 g.2.2.2.1 g.2.2.2.2.1 g.2.2.2.2.2.1 g.2.2.2.2.2.2.1 g.2.2.2.2.2.2.2.2.1 g.2.2.2.2.2.2.2.2.2.1 g.2.2.2.2.2.2.2.2.2.2.1 g.2.2.2.2.2.2.2.2.2.2.2.2.1 g.2.2.2.2.2.2.2.2.2.2.2.2.2.1 g.2.2.2.2.2.2.2.2.2.2.2.2.2.2.1 g.2.2.2.2.2.2.2.2.2.2.2.2.2.2.2.1 g.2.2.2.2.2.2.2.2.2.2.2.2.2.2.2.2.1 g.2.2.2.2.2.2.2.2.2.2.2.2.2.2.2.2.2.1 g.2.2.2.2.2.2.2.2.2.2.2.2.2.2.2.2.2.2.1 g.2.2.2.2.2.2.2.2.2.2.2.2.2.2.2.2.2.2.2.1 g.2.2.2.2.2.2.2.2.2.2.2.2.2.2.2.2.2.2.2.2.2.2.2.1 g.2.2.2.2.2.2.2.2.2.2.2.2.2.2.2.2.2.2.2.2.2.2.2.2.1 g.2.2.2.2.2.2.2.2.2.2.2.2.2.2.2.2.2.2.2.2.2.2.2.2.2.2.1).bind fun q => some (q.1, (q.2.1, q.2.2.1, q.2.2.2.1, q.2.2.2.2.1, g.2.2.2.2.1, q.2.2.2.2.2.1, q.2.2.2.2.2.2.1, g.2.2.2.2.2.2.2.1, g.2.2.2.2.2.2.2.2.1, q.2.2.2.2.2.2.2.1, q.2.2.2.2.2.2.2.2.1, g.2.2.2.2.2.2.2.2.2.2.2.1, q.2.2.2.2.2.2.2.2.2.1, q.2.2.2.2.2.2.2.2.2.2.1, q.2.2.2.2.2.2.2.2.2.2.2.1, q.2.2.2.2.2.2.2.2.2.2.2.2.1, q.2.2.2.2.2.2.2.2.2.2.2.2.2.1, q.2.2.2.2.2.2.2.2.2.2.2.2.2.2.1, q.2.2.2.2.2.2.2.2.2.2.2.2.2.2.2.1, q.2.2.2.2.2.2.2.2.2.2.2.2.2.2.2.2.1, g.2.2.2.2.2.2.2.2.2.2.2.2.2.2.2.2.2.2.2.2.1, g.2.2.2.2.2.2.2.2.2.2.2.2.2.2.2.2.2.2.2.2.2.1, g.2.2.2.2.2.2.2.2.2.2.2.2.2.2.2.2.2.2.2.2.2.2.1, g.2.2.2.2.2.2.2.2.2.2.2.2.2.2.2.2.2.2.2.2.2.2.2.1, q.2.2.2.2.2.2.2.2.2.2.2.2.2.2.2.2.2.1, g.2.2.2.2.2.2.2.2.2.2.2.2.2.2.2.2.2.2.2.2.2.2.2.2.2.1, q.2.2.2.2.2.2.2.2.2.2.2.2.2.2.2.2.2.2, g.2.2.2.2.2.2.2.2.2.2.2.2.2.2.2.2.2.2.2.2.2.2.2.2.2.2.2.1, g.2.2.2.2.2.2.2.2.2.2.2.2.2.2.2.2.2.2.2.2.2.2.2.2.2.2.2.2.1, g.2.2.2.2.2.2.2.2.2.2.2.2.2.2.2.2.2.2.2.2.2.2.2.2.2.2.2.2.2))
noncomputable def F_X1_turnDial (x1 : Int32) (x2 : Int32) (g : Gr) : Option (Int32 × Gr) := (f_X1_turnDial x1 x2 g.2.2.2.2.1 g.2.2.2.2.2.2.2.2.1).bind fun q => some (q.1, (g.1, g.2.1, g.2.2.1, g.2.2.2.1, q.2.1, g.2.2.2.2.2.1, g.2.2.2.2.2.2.1, g.2.2.2.2.2.2.2.1, q.2.2, g.2.2.2.2.2.2.2.2.2.1, g.2.2.2.2.2.2.2.2.2.2.1, g.2.2.2.2.2.2.2.2.2.2.2.1, g.2.2.2.2.2.2.2.2.2.2.2.2.1, g.2.2.2.2.2.2.2.2.2.2.2.2.2.1, g.2.2.2.2.2.2.2.2.2.2.2.2.2.2.1, g.2.2.2.2.2.2.2.2.2.2.2.2.2.2.2.1, g.2.2.2.2.2.2.2.2.2.2.2.2.2.2.2.2.1, g.2.2.2.2.2.2.2.2.2.2.2.2.2.2.2.2.2.1, g.2.2.2.2.2.2.2.2.2.2.2.2.2.2.2.2.2.2.1, g.2.2.2.2.2.2.2.2.2.2.2.2.2.2.2.2.2.2.2.1, g.2.2.2.2.2.2.2.2.2.2.2.2.2.2.2.2.2.2.2.2.1, g.2.2.2.2.2.2.2.2.2.2.2.2.2.2.2.2.2.2.2.2.2.1, g.2.2.2.2.2.2.2.2.2.2.2.2.2.2.2.2.2.2.2.2.2.2.1, g.2.2.2.2.2.2.2.2.2.2.2.2.2.2.2.2.2.2.2.2.2.2.2.1, g.2.2.2.2.2.2.2.2.2.2.2.2.2.2.2.2.2.2.2.2.2.2.2.2.1, g.2.2.2.2.2.2.2.2.2.2.2.2.2.2.2.2.2.2.2.2.2.2.2.2.2.1, g.2.2.2.2.2.2.2.2.2.2.2.2.2.2.2.2.2.2.2.2.2.2.2.2.2.2.1, g.2.2.2.2.2.2.2.2.2.2.2.2.2.2.2.2.2.2.2.2.2.2.2.2.2.2.2.1, g.2.2.2.2.2.2.2.2.2.2.2.2.2.2.2.2.2.2.2.2.2.2.2.2.2.2.2.2.1, g.2.2.2.2.2.2.2.2.2.2.2.2.2.2.2.2.2.2.2.2.2.2.2.2.2.2.2.2.2))
noncomputable def F_X1_letPass (x1 : Int32) (g : Gr) : Option (Int32 × Gr) := (f_X1_letPass x1 g.2.2.2.2.2.1 g.2.2.2.2.2.2.2.2.2.1 g.2.2.2.2.2.2.2.2.2.2.2.2.2.2.2.2.2.2.2.2.2.2.2.2.1).bind fun q => some (q.1, (g.1, g.2.1, g.2.2.1, g.2.2.2.1, g.2.2.2.2.1, q.2.1, g.2.2.2.2.2.2.1, g.2.2.2.2.2.2.2.1, g.2.2.2.2.2.2.2.2.1, q.2.2.1, g.2.2.2.2.2.2.2.2.2.2.1, g.2.2.2.2.2.2.2.2.2.2.2.1, g.2.2.2.2.2.2.2.2.2.2.2.2.1, g.2.2.2.2.2.2.2.2.2.2.2.2.2.1, g.2.2.2.2.2.2.2.2.2.2.2.2.2.2.1, g.2.2.2.2.2.2.2.2.2.2.2.2.2.2.2.1, g.2.2.2.2.2.2.2.2.2.2.2.2.2.2.2.2.1, g.2.2.2.2.2.2.2.2.2.2.2.2.2.2.2.2.2.1, g.2.2.2.2.2.2.2.2.2.2.2.2.2.2.2.2.2.2.1, g.2.2.2.2.2.2.2.2.2.2.2.2.2.2.2.2.2.2.2.1, g.2.2.2.2.2.2.2.2.2.2.2.2.2.2.2.2.2.2.2.2.1, g.2.2.2.2.2.2.2.2.2.2.2.2.2.2.2.2.2.2.2.2.2.1, g.2.2.2.2.2.2.2.2.2.2.2.2.2.2.2.2.2.2.2.2.2.2.1, g.2.2.2.2.2.2.2.2.2.2.2.2.2.2.2.2.2.2.2.2.2.2.2.1, q.2.2.2, g.2.2.2.2.2.2.2.2.2.2.2.2.2.2.2.2.2.2.2.2.2.2.2.2.2.1, g.2.2.2.2.2.2.2.2.2.2.2.2.2.2.2.2.2.2.2.2.2.2.2.2.2.2.1, g.2.2.2.2.2.2.2.2.2.2.2.2.2.2.2.2.2.2.2.2.2.2.2.2.2.2.2.1, g.2.2.2.2.2.2.2.2.2.2.2.2.2.2.2.2.2.2.2.2.2.2.2.2.2.2.2.2.1, g.2.2.2.2.2.2.2.2.2.2.2.2.2.2.2.2.2.2.2.2.2.2.2.2.2.2.2.2.2))
noncomputable def F_X1_makeShot (g : Gr) : Option (Int32 × Gr) := (f_X1_makeShot g.2.2.2.2.1 g.2.2.2.2.2.1 g.2.2.2.2.2.2.2.1 g.2.2.2.2.2.2.2.2.1 g.2.2.2.2.2.2.2.2.2.1 g.2.2.2.2.2.2.2.2.2.2.2.1 g.2.2.2.2.2.2.2.2.2.2.2.2.2.2.2.2.1 g.2.2.2.2.2.2.2.2.2.2.2.2.2.2.2.2.2.1 g.2.2.2.2.2.2.2.2.2.2.2.2.2.2.2.2.2.2.1 g.2.2.2.2.2.2.2.2.2.2.2.2.2.2.2.2.2.2.2.1 g.2.2.2.2.2.2.2.2.2.2.2.2.2.2.2.2.2.2.2.2.1 g.2.2.2.2.2.2.2.2.2.2.2.2.2.2.2.2.2.2.2.2.2.1 g.2.2.2.2.2.2.2.2.2.2.2.2.2.2.2.2.2.2.2.2.2.2.1 g.2.2.2.2.2.2.2.2.2.2.2.2.2.2.2.2.2.2.2.2.2.2.2.1 g.2.2.2.2.2.2.2.2.2.2.2.2.2.2.2.2.2.2.2.2.2.2.2.2.1 g.2.2.2.2.2.2.2.2.2.2.2.2.2.2.2.2.2.2.2.2.2.2.2.2.2.2.2.1 g.2.2.2.2.2.2.2.2.2.2.2.2.2.2.2.2.2.2.2.2.2.2.2.2.2.2.2.2.2).bind fun q => some (q.1, (g.1, g.2.1, g.2.2.1, g.2.2.2.1, q.2.1, q.2.2.1, g.2.2.2.2.2.2.1, q.2.2.2.1, q.2.2.2.2.1, q.2.2.2.2.2.1, g.2.2.2.2.2.2.2.2.2.2.1, q.2.2.2.2.2.2.1, g.2.2.2.2.2.2.2.2.2.2.2.2.1, g.2.2.2.2.2.2.2.2.2.2.2.2.2.1, g.2.2.2.2.2.2.2.2.2.2.2.2.2.2.1, g.2.2.2.2.2.2.2.2.2.2.2.2.2.2.2.1, g.2.2.2.2.2.2.2.2.2.2.2.2.2.2.2.2.1, g.2.2.2.2.2.2.2.2.2.2.2.2.2.2.2.2.2.1, q.2.2.2.2.2.2.2.1, q.2.2.2.2.2.2.2.2.1, q.2.2.2.2.2.2.2.2.2.1, q.2.2.2.2.2.2.2.2.2.2.1, q.2.2.2.2.2.2.2.2.2.2.2.1, g.2.2.2.2.2.2.2.2.2.2.2.2.2.2.2.2.2.2.2.2.2.2.2.1, q.2.2.2.2.2.2.2.2.2.2.2.2.1, g.2.2.2.2.2.2.2.2.2.2.2.2.2.2.2.2.2.2.2.2.2.2.2.2.2.1, g.2.2.2.2.2.2.2.2.2.2.2.2.2.2.2.2.2.2.2.2.2.2.2.2.2.2.1, q.2.2.2.2.2.2.2.2.2.2.2.2.2.1, g.2.2.2.2.2.2.2.2.2.2.2.2.2.2.2.2.2.2.2.2.2.2.2.2.2.2.2.2.1, q.2.2.2.2.2.2.2.2.2.2.2.2.2.2))
noncomputable def F_X1_emptyChute (g : Gr) : Option (Int32 × Gr) := (f_X1_emptyChute g.2.2.2.2.2.2.2.2.2.2.2.2.2.2.1 g.2.2.2.2.2.2.2.2.2.2.2.2.2.2.2.1 g.2.2.2.2.2.2.2.2.2.2.2.2.2.2.2.2.2.2.2.2.2.2.2.2.2.2.2.2.1).bind fun q => some (q.1, (g.1, g.2.1, g.2.2.1, g.2.2.2.1, g.2.2.2.2.1, g.2.2.2.2.2.1, g.2.2.2.2.2.2.1, g.2.2.2.2.2.2.2.1, g.2.2.2.2.2.2.2.2.1, g.2.2.2.2.2.2.2.2.2.1, g.2.2.2.2.2.2.2.2.2.2.1, g.2.2.2.2.2.2.2.2.2.2.2.1, g.2.2.2.2.2.2.2.2.2.2.2.2.1, g.2.2.2.2.2.2.2.2.2.2.2.2.2.1, q.2.1, q.2.2.1, g.2.2.2.2.2.2.2.2.2.2.2.2.2.2.2.2.1, g.2.2.2.2.2.2.2.2.2.2.2.2.2.2.2.2.2.1, g.2.2.2.2.2.2.2.2.2.2.2.2.2.2.2.2.2.2.1, g.2.2.2.2.2.2.2.2.2.2.2.2.2.2.2.2.2.2.2.1, g.2.2.2.2.2.2.2.2.2.2.2.2.2.2.2.2.2.2.2.2.1, g.2.2.2.2.2.2.2.2.2.2.2.2.2.2.2.2.2.2.2.2.2.1, g.2.2.2.2.2.2.2.2.2.2.2.2.2.2.2.2.2.2.2.2.2.2.1, g.2.2.2.2.2.2.2.2.2.2.2.2.2.2.2.2.2.2.2.2.2.2.2.1, g.2.2.2.2.2.2.2.2.2.2.2.2.2.2.2.2.2.2.2.2.2.2.2.2.1, g.2.2.2.2.2.2.2.2.2.2.2.2.2.2.2.2.2.2.2.2.2.2.2.2.2.1, g.2.2.2.2.2.2.2.2.2.2.2.2.2.2.2.2.2.2.2.2.2.2.2.2.2.2.1, g.2.2.2.2.2.2.2.2.2.2.2.2.2.2.2.2.2.2.2.2.2.2.2.2.2.2.2.1, q.2.2.2, g.2.2.2.2.2.2.2.2.2.2.2.2.2.2.2.2.2.2.2.2.2.2.2.2.2.2.2.2.2))
noncomputable def F_X1_correctByLatest (x1 : Int32) (g : Gr) : Option (Int32 × Gr) := (f_X1_correctByLatest x1 g.2.2.2.2.1 g.2.2.2.2.2.2.2.1 g.2.2.2.2.2.2.2.2.1 g.2.2.2.2.2.2.2.2.2.2.2.1 g.2.2.2.2.2.2.2.2.2.2.2.2.2.2.2.2.2.2.2.2.1 g.2.2.2.2.2.2.2.2.2.2.2.2.2.2.2.2.2.2.2.2.2.1 g.2.2.2.2.2.2.2.2.2.2.2.2.2.2.2.2.2.2.2.2.2.2.2.1).bind fun q => some (q.1, (g.1, g.2.1, g.2.2.1, g.2.2.2.1, q.2.1, g.2.2.2.2.2.1, g.2.2.2.2.2.2.1, q.2.2.1, q.2.2.2.1, g.2.2.2.2.2.2.2.2.2.1, g.2.2.2.2.2.2.2.2.2.2.1, q.2.2.2.2, g.2.2.2.2.2.2.2.2.2.2.2.2.1, g.2.2.2.2.2.2.2.2.2.2.2.2.2.1, g.2.2.2.2.2.2.2.2.2.2.2.2.2.2.1, g.2.2.2.2.2.2.2.2.2.2.2.2.2.2.2.1, g.2.2.2.2.2.2.2.2.2.2.2.2.2.2.2.2.1, g.2.2.2.2.2.2.2.2.2.2.2.2.2.2.2.2.2.1, g.2.2.2.2.2.2.2.2.2.2.2.2.2.2.2.2.2.2.1, g.2.2.2.2.2.2.2.2.2.2.2.2.2.2.2.2.2.2.2.1, g.2.2.2.2.2.2.2.2.2.2.2.2.2.2.2.2.2.2.2.2.1, g.2.2.2.2.2.2.2.2.2.2.2.2.2.2.2.2.2.2.2.2.2.1, g.2.2.2.2.2.2.2.2.2.2.2.2.2.2.2.2.2.2.2.2.2.2.1, g.2.2.2.2.2.2.2.2.2.2.2.2.2.2.2.2.2.2.2.2.2.2.2.1, g.2.2.2.2.2.2.2.2.2.2.2.2.2.2.2.2.2.2.2.2.2.2.2.2.1, g.2.2.2.2.2.2.2.2.2.2.2.2.2.2.2.2.2.2.2.2.2.2.2.2.2.1, g.2.2.2.2.2.2.2.2.2.2.2.2.2.2.2.2.2.2.2.2.2.2.2.2.2.2.1, g.2.2.2.2.2.2.2.2.2.2.2.2.2.2.2.2.2.2.2.2.2.2.2.2.2.2.2.1, g.2.2.2.2.2.2.2.2.2.2.2.2.2.2.2.2.2.2.2.2.2.2.2.2.2.2.2.2.1, g.2.2.2.2.2.2.2.2.2.2.2.2.2.2.2.2.2.2.2.2.2.2.2.2.2.2.2.2.2))
noncomputable def F_X1_changeSetting (x1 : Int32) (x2 : Int32) (g : Gr) : Option (Int32 × Gr) := (f_X1_changeSetting x1 x2 g.2.2.2.2.2.2.2.2.2.2.2.2.2.2.2.2.2.2.2.2.2.2.2.1).bind fun q => some (q.1, (g.1, g.2.1, g.2.2.1, g.2.2.2.1, g.2.2.2.2.1, g.2.2.2.2.2.1, g.2.2.2.2.2.2.1, g.2.2.2.2.2.2.2.1, g.2.2.2.2.2.2.2.2.1, g.2.2.2.2.2.2.2.2.2.1, g.2.2.2.2.2.2.2.2.2.2.1, g.2.2.2.2.2.2.2.2.2.2.2.1, g.2.2.2.2.2.2.2.2.2.2.2.2.1, g.2.2.2.2.2.2.2.2.2.2.2.2.2.1, g.2.2.2.2.2.2.2.2.2.2.2.2.2.2.1, g.2.2.2.2.2.2.2.2.2.2.2.2.2.2.2.1, g.2.2.2.2.2.2.2.2.2.2.2.2.2.2.2.2.1, g.2.2.2.2.2.2.2.2.2.2.2.2.2.2.2.2.2.1, g.2.2.2.2.2.2.2.2.2.2.2.2.2.2.2.2.2.2.1, g.2.2.2.2.2.2.2.2.2.2.2.2.2.2.2.2.2.2.2.1, g.2.2.2.2.2.2.2.2.2.2.2.2.2.2.2.2.2.2.2.2.1, g.2.2.2.2.2.2.2.2.2.2.2.2.2.2.2.2.2.2.2.2.2.1, g.2.2.2.2.2.2.2.2.2.2.2.2.2.2.2.2.2.2.2.2.2.2.1, q.2, g.2.2.2.2.2.2.2.2.2.2.2.2.2.2.2.2.2.2.2.2.2.2.2.2.1, g.2.2.2.2.2.2.2.2.2.2.2.2.2.2.2.2.2.2.2.2.2.2.2.2.2.1, g.2.2.2.2.2.2.2.2.2.2.2.2.2.2.2.2.2.2.2.2.2.2.2.2.2.2.1, g.2.2.2.2.2.2.2.2.2.2.2.2.2.2.2.2.2.2.2.2.2.2.2.2.2.2.2.1, g.2.2.2.2.2.2.2.2.2.2.2.2.2.2.2.2.2.2.2.2.2.2.2.2.2.2.2.2.1, g.2.2.2.2.2.2.2.2.2.2.2.2.2.2.2.2.2.2.2.2.2.2.2.2.2.2.2.2.2))
noncomputable def F_X1_timeOfBasket (g : Gr) : Option (Int32) := f_X1_timeOfBasket g.2.2.2.2.2.2.2.2.2.2.2.2.2.2.2.2.1 g.2.2.2.2.2.2.2.2.2.2.2.2.2.2.2.2.2.1 g.2.2.2.2.2.2.2.2.2.2.2.2.2.2.2.2.2.2.1 g.2.2.2.2.2.2.2.2.2.2.2.2.2.2.2.2.2.2.2.1 g.2.2.2.2.2.2.2.2.2.2.2.2.2.2.2.2.2.2.2.2.2.2.2.1
noncomputable def F_X1_copyFrom (g : Gr) (go : Gr) : Option (Gr) := (f_X1_copyFrom g.1 g.2.1 g.2.2.1 g.2.2.2.1 g.2.2.2.2.1 g.2.2.2.2.2.1 g.2.2.2.2.2.2.1 g.2.2.2.2.2.2.2.1 g.2.2.2.2.2.2.2.2.1 g.2.2.2.2.2.2.2.2.2.1 g.2.2.2.2.2.2.2.2.2.2.1 g.2.2.2.2.2.2.2.2.2.2.2.1 g.2.2.2.2.2.2.2.2.2.2.2.2.1 g.2.2.2.2.2.2.2.2.2.2.2.2.2.1 g.2.2.2.2.2.2.2.2.2.2.2.2.2.2.1 g.2.2.2.2.2.2.2.2.2.2.2.2.2.2.2.1 g.2.2.2.2.2.2.2.2.2.2.2.2.2.2.2.2.1 g.2.2.2.2.2.2.2.2.2.2.2.2.2.2.2.2.2.1 g.2.2.2.2.2.2.2.2.2.2.2.2.2.2.2.2.2.2.1 g.2.2.2.2.2.2.2.2.2.2.2.2.2.2.2.2.2.2.2.1 g.2.2.2.2.2.2.2.2.2.2.2.2.2.2.2.2.2.2.2.2.1 g.2.2.2.2.2.2.2.2.2.2.2.2.2.2.2.2.2.2.2.2.2.1 g.2.2.2.2.2.2.2.2.2.2.2.2.2.2.2.2.2.2.2.2.2.2.1 g.2.2.2.2.2.2.2.2.2.2.2.2.2.2.2.2.2.2.2.2.2.2.2.1 g.2.2.2.2.2.2.2.2.2.2.2.2.2.2.2.2.2.2.2.2.2.2.2.2.1 g.2.2.2.2.2.2.2.2.2.2.2.2.2.2.2.2.2.2.2.2.2.2.2.2.2.1 g.2.2.2.2.2.2.2.2.2.2.2.2.2.2.2.2.2.2.2.2.2.2.2.2.2.2.1 g.2.2.2.2.2.2.2.2.2.2.2.2.2.2.2.2.2.2.2.2.2.2.2.2.2.2.2.1 g.2.2.2.2.2.2.2.2.2.2.2.2.2.2.2.2.2.2.2.2.2.2.2.2.2.2.2.2.1 g.2.2.2.2.2.2.2.2.2.2.2.2.2.2.2.2.2.2.2.2.2.2.2.2.2.2.2.2.2 go.1 go.2.1 go.2.2.1 go.2.2.2.1 go.2.2.2.2.1 go.2.2.2.2.2.1 go.2.2.2.2.2.2.1 go.2.2.2.2.2.2.2.1 go.2.2.2.2.2.2.2.2.1 go.2.2.2.2.2.2.2.2.2.1 go.2.2.2.2.2.2.2.2.2.2.1 go.2.2.2.2.2.2.2.2.2.2.2.1 go.2.2.2.2.2.2.2.2.2.2.2.2.1 go.2.2.2.2.2.2.2.2.2.2.2.2.2.1 go.2.2.2.2.2.2.2.2.2.2.2.2.2.2.1 go.2.2.2.2.2.2.2.2.2.2.2.2.2.2.2.1 go.2.2.2.2.2.2.2.2.2.2.2.2.2.2.2.2.1 go.2.2.2.2.2.2.2.2.2.2.2.2.2.2.2.2.2.1 go.2.2.2.2.2.2.2.2.2.2.2.2.2.2.2.2.2.2.1 go.2.2.2.2.2.2.2.2.2.2.2.2.2.2.2.2.2.2.2.1 go.2.2.2.2.2.2.2.2.2.2.2.2.2.2.2.2.2.2.2.2.1 go.2.2.2.2.2.2.2.2.2.2.2.2.2.2.2.2.2.2.2.2.2.1 go.2.2.2.2.2.2.2.2.2.2.2.2.2.2.2.2.2.2.2.2.2.2.1 go.2.2.2.2.2.2.2.2.2.2.2.2.2.2.2.2.2.2.2.2.2.2.2.1 go.2.2.2.2.2.2.2.2.2.2.2.2.2.2.2.2.2.2.2.2.2.2.2.2.1 go.2.2.2.2.2.2.2.2.2.2.2.2.2.2.2.2.2.2.2.2.2.2.2.2.2.1 go.2.2.2.2.2.2.2.2.2.2.2.2.2.2.2.2.2.2.2.2.2.2.2.2.2.2.1 go.2.2.2.2.2.2.2.2.2.2.2.2.2.2.2.2.2.2.2.2.2.2.2.2.2.2.2.1 go.2.2.2.2.2.2.2.2.2.2.2.2.2.2.2.2.2.2.2.2.2.2.2.2.2.2.2.2.1 go.2.2.2.2.2.2.2.2.2.2.2.2.2.2.2.2.2.2.2.2.2.2.2.2.2.2.2.2.2).bind fun q => some (q.1, q.2.1, q.2.2.1, q.2.2.2.1, q.2.2.2.2.1, q.2.2.2.2.2.1, q.2.2.2.2.2.2.1, q.2.2.2.2.2.2.2.1, q.2.2.2.2.2.2.2.2.1, q.2.2.2.2.2.2.2.2.2.1, q.2.2.2.2.2.2.2.2.2.2.1, q.2.2.2.2.2.2.2.2.2.2.2.1, q.2.2.2.2.2.2.2.2.2.2.2.2.1, q.2.2.2.2.2.2.2.2.2.2.2.2.2.1, q.2.2.2.2.2.2.2.2.2.2.2.2.2.2.1, q.2.2.2.2.2.2.2.2.2.2.2.2.2.2.2.1, q.2.2.2.2.2.2.2.2.2.2.2.2.2.2.2.2.1, q.2.2.2.2.2.2.2.2.2.2.2.2.2.2.2.2.2.1, q.2.2.2.2.2.2.2.2.2.2.2.2.2.2.2.2.2.2.1, q.2.2.2.2.2.2.2.2.2.2.2.2.2.2.2.2.2.2.2.1, q.2.2.2.2.2.2.2.2.2.2.2.2.2.2.2.2.2.2.2.2.1, q.2.2.2.2.2.2.2.2.2.2.2.2.2.2.2.2.2.2.2.2.2.1, q.2.2.2.2.2.2.2.2.2.2.2.2.2.2.2.2.2.2.2.2.2.2.1, q.2.2.2.2.2.2.2.2.2.2.2.2.2.2.2.2.2.2.2.2.2.2.2.1, q.2.2.2.2.2.2.2.2.2.2.2.2.2.2.2.2.2.2.2.2.2.2.2.2.1, q.2.2.2.2.2.2.2.2.2.2.2.2.2.2.2.2.2.2.2.2.2.2.2.2.2.1, q.2.2.2.2.2.2.2.2.2.2.2.2.2.2.2.2.2.2.2.2.2.2.2.2.2.2.1, q.2.2.2.2.2.2.2.2.2.2.2.2.2.2.2.2.2.2.2.2.2.2.2.2.2.2.2.1, q.2.2.2.2.2.2.2.2.2.2.2.2.2.2.2.2.2.2.2.2.2.2.2.2.2.2.2.2.1, q.2.2.2.2.2.2.2.2.2.2.2.2.2.2.2.2.2.2.2.2.2.2.2.2.2.2.2.2.2)
noncomputable def f_X2_add (x1 : Nat) (yl : Nat) (ys : Nat) (yt : Nat) (yo : Nat) (yn : Int32) : Option (Nat × Nat × Nat × Nat × Nat × Int32) := lt ((if (yn + (1 : Int32)) < (4 : Int32) then (yn + (1 : Int32)) else (4 : Int32))) fun v1 => some (yo, x1, yl, ys, yt, v1)
noncomputable def f_X7_spareLikeNow (nw : Nat) (sp : Nat) (g : Gr) (go : Gr) : Option (Gr) := (F_X1_copyFrom go g).bind fun q1 => some q1
noncomputable def f_X7_keepIfDone (x1 : Int32) (nw : Nat) (sp : Nat) (yl : Nat) (ys : Nat) (yt : Nat) (yo : Nat) (yn : Int32) : Option (Int32 × Nat × Nat × Nat × Nat × Nat × Nat × Int32) := (if 0 ≤ x1 then (f_X2_add nw yl ys yt yo yn).bind fun q2 => some (x1, sp, q2.1, q2.2.1, q2.2.2.1, q2.2.2.2.1, q2.2.2.2.2.1, q2.2.2.2.2.2) else some (x1, nw, sp, yl, ys, yt, yo, yn))
noncomputable def f_X7_fill (x1 : Int32) (x2 : Int32) (nw : Nat) (sp : Nat) (yl : Nat) (ys : Nat) (yt : Nat) (yo : Nat) (yn : Int32) (g : Gr) (go : Gr) : Option (Int32 × Nat × Nat × Nat × Nat × Nat × Nat × Int32 × Gr) := (f_X7_spareLikeNow nw sp g go).bind fun q1 => (F_X1_fillIn x1 x2 q1).bind fun q2 => (f_X7_keepIfDone q2.1 nw sp yl ys yt yo yn).bind fun q3 => some (q3.1, q3.2.1, q3.2.2.1, q3.2.2.2.1, q3.2.2.2.2.1, q3.2.2.2.2.2.1, q3.2.2.2.2.2.2.1, q3.2.2.2.2.2.2.2, q2.2)
noncomputable def f_X7_grind (x1 : Int32) (x2 : Int32) (nw : Nat) (sp : Nat) (yl : Nat) (ys : Nat) (yt : Nat) (yo : Nat) (yn : Int32) (g : Gr) (go : Gr) : Option (Int32 × Nat × Nat × Nat × Nat × Nat × Nat × Int32 × Gr) := (f_X7_spareLikeNow nw sp g go).bind fun q1 => (F_X1_grindBy x1 x2 q1).bind fun q2 => (f_X7_keepIfDone q2.1 nw sp yl ys yt yo yn).bind fun q3 => some (q3.1, q3.2.1, q3.2.2.1, q3.2.2.2.1, q3.2.2.2.2.1, q3.2.2.2.2.2.1, q3.2.2.2.2.2.2.1, q3.2.2.2.2.2.2.2, q2.2)
noncomputable def f_X7_dial (x1 : Int32) (x2 : Int32) (nw : Nat) (sp : Nat) (yl : Nat) (ys : Nat) (yt : Nat) (yo : Nat) (yn : Int32) (g : Gr) (go : Gr) : Option (Int32 × Nat × Nat × Nat × Nat × Nat × Nat × Int32 × Gr) := (f_X7_spareLikeNow nw sp g go).bind fun q1 => (F_X1_turnDial x1 x2 q1).bind fun q2 => (f_X7_keepIfDone q2.1 nw sp yl ys yt yo yn).bind fun q3 => some (q3.1, q3.2.1, q3.2.2.1, q3.2.2.2.1, q3.2.2.2.2.1, q3.2.2.2.2.2.1, q3.2.2.2.2.2.2.1, q3.2.2.2.2.2.2.2, q2.2)
noncomputable def f_X7_rest (x1 : Int32) (nw : Nat) (sp : Nat) (yl : Nat) (ys : Nat) (yt : Nat) (yo : Nat) (yn : Int32) (g : Gr) (go : Gr) : Option (Int32 × Nat × Nat × Nat × Nat × Nat × Nat × Int32 × Gr) := (f_X7_spareLikeNow nw sp g go).bind fun q1 => (F_X1_letPass x1 q1).bind fun q2 => (f_X7_keepIfDone q2.1 nw sp yl ys yt yo yn).bind fun q3 => some (q3.1, q3.2.1, q3.2.2.1, q3.2.2.2.1, q3.2.2.2.2.1, q3.2.2.2.2.2.1, q3.2.2.2.2.2.2.1, q3.2.2.2.2.2.2.2, q2.2)
noncomputable def f_X7_shot (nw : Nat) (sp : Nat) (yl : Nat) (ys : Nat) (yt : Nat) (yo : Nat) (yn : Int32) (g : Gr) (go : Gr) : Option (Int32 × Nat × Nat × Nat × Nat × Nat × Nat × Int32 × Gr) := (f_X7_spareLikeNow nw sp g go).bind fun q1 => (F_X1_makeShot q1).bind fun q2 => (f_X7_keepIfDone q2.1 nw sp yl ys yt yo yn).bind fun q3 => some (q3.1, q3.2.1, q3.2.2.1, q3.2.2.2.1, q3.2.2.2.2.1, q3.2.2.2.2.2.1, q3.2.2.2.2.2.2.1, q3.2.2.2.2.2.2.2, q2.2)
noncomputable def f_X7_purge (nw : Nat) (sp : Nat) (yl : Nat) (ys : Nat) (yt : Nat) (yo : Nat) (yn : Int32) (g : Gr) (go : Gr) : Option (Int32 × Nat × Nat × Nat × Nat × Nat × Nat × Int32 × Gr) := (f_X7_spareLikeNow nw sp g go).bind fun q1 => (F_X1_emptyChute q1).bind fun q2 => (f_X7_keepIfDone q2.1 nw sp yl ys yt yo yn).bind fun q3 => some (q3.1, q3.2.1, q3.2.2.1, q3.2.2.2.1, q3.2.2.2.2.1, q3.2.2.2.2.2.1, q3.2.2.2.2.2.2.1, q3.2.2.2.2.2.2.2, q2.2)
noncomputable def f_X7_correct (x1 : Int32) (nw : Nat) (sp : Nat) (yl : Nat) (ys : Nat) (yt : Nat) (yo : Nat) (yn : Int32) (g : Gr) (go : Gr) : Option (Int32 × Nat × Nat × Nat × Nat × Nat × Nat × Int32 × Gr) := (f_X7_spareLikeNow nw sp g go).bind fun q1 => (F_X1_correctByLatest x1 q1).bind fun q2 => (f_X7_keepIfDone q2.1 nw sp yl ys yt yo yn).bind fun q3 => some (q3.1, q3.2.1, q3.2.2.1, q3.2.2.2.1, q3.2.2.2.2.1, q3.2.2.2.2.2.1, q3.2.2.2.2.2.2.1, q3.2.2.2.2.2.2.2, q2.2)
noncomputable def f_X7_set (x1 : Int32) (x2 : Int32) (nw : Nat) (sp : Nat) (yl : Nat) (ys : Nat) (yt : Nat) (yo : Nat) (yn : Int32) (g : Gr) (go : Gr) : Option (Int32 × Nat × Nat × Nat × Nat × Nat × Nat × Int32 × Gr) := (f_X7_spareLikeNow nw sp g go).bind fun q1 => (F_X1_changeSetting x1 x2 q1).bind fun q2 => (f_X7_keepIfDone q2.1 nw sp yl ys yt yo yn).bind fun q3 => some (q3.1, q3.2.1, q3.2.2.1, q3.2.2.2.1, q3.2.2.2.2.1, q3.2.2.2.2.2.1, q3.2.2.2.2.2.2.1, q3.2.2.2.2.2.2.2, q2.2)
noncomputable def f_X7_burrOf (x1 : Int32) (x2 : Int32) (nw : Nat) (d0 : Int32) (w0 : Int32) (g0 : Int32) (k0 : Int32) (d1 : Int32) (w1 : Int32) (g1 : Int32) (k1 : Int32) : Option (Int32) := (f_X7_isZeroOrOne x1).bind fun q1 => (if q1 = 0 then some (-1000001 : Int32) else (if x2 < 0 then some (-1000001 : Int32) else (if x2 ≤ (4 : Int32) then (if x1 = 0 then (f_X0_tell x2 d0 w0 g0 k0).bind fun q6 => some q6 else (f_X0_tell x2 d1 w1 g1 k1).bind fun q7 => some q7) else some (-1000001 : Int32))))
noncomputable def f_X7_lotOf (x1 : Int32) (x2 : Int32) (nw : Nat) (pA : Nat → Int32) (pM : Nat → Int32) (pn : Int32) : Option (Int32) := (if x1 < 0 then some (-1000001 : Int32) else (if x2 < 0 then some (-1000001 : Int32) else (if x2 ≤ (1 : Int32) then (f_X3_tell 6 x1 x2 pA pM pn).bind fun q4 => some q4 else some (-1000001 : Int32))))
noncomputable def f_X7_portionOf_J48 (nw : Nat) (qA : Nat → Int32) (qM : Nat → Int32) (qn : Int32) (uA : Nat → Int32) (uM : Nat → Int32) (un : Int32) (st : Nat → Int32) (y2_48 : Int32) (y3_48 : Int32) : Option (Int32) := (f_X1_tellPortion_u y2_48 y3_48 uA uM un st).bind fun q7 => some q7
noncomputable def f_X7_portionOf_J48a (nw : Nat) (qA : Nat → Int32) (qM : Nat → Int32) (qn : Int32) (uA : Nat → Int32) (uM : Nat → Int32) (un : Int32) (st : Nat → Int32) (y2_48a : Int32) (y3_48a : Int32) : Option (Int32) := (f_X1_tellPortion_q y2_48a y3_48a qA qM qn st).bind fun q8 => some q8
noncomputable def f_X7_portionOf (x1 : Int32) (x2 : Int32) (x3 : Int32) (nw : Nat) (qA : Nat → Int32) (qM : Nat → Int32) (qn : Int32) (uA : Nat → Int32) (uM : Nat → Int32) (un : Int32) (st : Nat → Int32) : Option (Int32) := (f_X7_isZeroOrOne x1).bind fun q1 => (if q1 = 0 then some (-1000001 : Int32) else (if x2 < 0 then some (-1000001 : Int32) else (if x3 < 0 then some (-1000001 : Int32) else (if x3 ≤ (4 : Int32) then (if x1 = 0 then f_X7_portionOf_J48a nw qA qM qn uA uM un st x2 x3 else f_X7_portionOf_J48 nw qA qM qn uA uM un st x2 x3) else some (-1000001 : Int32)))))
noncomputable def f_X7_shotOf (x1 : Int32) (x2 : Int32) (nw : Nat) (sF : Nat → Int32) (sk : Int32) (st : Nat → Int32) : Option (Int32) := (if x1 < 0 then some (-1000001 : Int32) else (if x2 < 0 then some (-1000001 : Int32) else (if x2 ≤ (7 : Int32) then (f_X6_tell x1 x2 (st (0 : Int32).toNatClampNeg) sF sk).bind fun q4 => some q4 else some (-1000001 : Int32))))
noncomputable def f_X7_count (x1 : Int32) (nw : Nat) (yn : Int32) (oL : Int32) (pt : Int32) (qt : Int32) (ut : Int32) (sm : Int32) (st : Nat → Int32) (se : Int32) (fi : Int32) (gr : Int32) (br : Int32) (pu : Int32) (nr : Int32) : Option (Int32) := (if x1 = 10 then some yn else (if x1 = 11 then some oL else (f_X1_tell x1 pt qt ut sm st se fi gr br pu nr).bind fun q3 => some q3))
end
section
/-! numbers: what the leaves answer -/
theorem fa_lit (n : Nat) : (OfNat.ofNat n : Int32) = nI n := rfl
theorem fa_L {n : Nat} : (OfNat.ofNat n : Int32) = nI (OfNat.ofNat n) := rfl
theorem fa_and (a b : Nat) : nI a &&& nI b = nI (a &&& b) := by
  apply Int32.toBitVec_inj.1
  show BitVec.ofNat 32 a &&& BitVec.ofNat 32 b = BitVec.ofNat 32 (a &&& b)
  apply BitVec.eq_of_getLsbD_eq
  intro i hi
  simp [hi]
theorem fa_or (a b : Nat) : nI a ||| nI b = nI (a ||| b) := by
  apply Int32.toBitVec_inj.1
  show BitVec.ofNat 32 a ||| BitVec.ofNat 32 b = BitVec.ofNat 32 (a ||| b)
  apply BitVec.eq_of_getLsbD_eq
  intro i hi
  simp [hi]
theorem fa_mask (n k : Nat) : nI n &&& nI (2 ^ k - 1) = nI (n % 2 ^ k) := by rw [fa_and, Nat.and_two_pow_sub_one_eq_mod]
theorem fa_or_sum {a k : Nat} (b : Nat) (h : a < 2 ^ k) : nI (2 ^ k * b) ||| nI a = nI (2 ^ k * b + a) := by rw [fa_or, Nat.two_pow_add_eq_or_of_lt h]
theorem nI_inj {a b : Nat} (h : a = b) : nI a = nI b := congrArg nI h
theorem so_inj {α : Type} {a b : α} (h : a = b) : some a = some b := congrArg some h
/-- how much the warmth falls -/
def fl (w : Nat) : Nat := if w = 0 then 0 else if w < 16 then 1 else w / 16
/-- a flow -/
def fw (h g : Nat) : Nat := if g < 10 then 0 else h * 1000 / g
/-- a gap -/
def gp (d w : Nat) : Nat := max 10 (10 * d - w / 5)
/-- cooled n times -/
def cl : Nat → Nat → Nat
  | 0, w => w
  | n + 1, w => cl n (w - fl w)
/-- how many coolings until t at most -/
def ct : Nat → Nat → Nat → Nat
  | 0, _, _ => 0
  | n + 1, w, t => if t < w then 1 + ct n (w - fl w) t else 0
/-- a corrected dial -/
def cor (d t g : Nat) : Nat := max 1 (min 60 ((d * t + g / 2) / g))
theorem fl_le (w : Nat) : fl w ≤ w := by unfold fl; split; omega; split <;> omega
theorem fl_pos {w : Nat} (h : 0 < w) : 1 ≤ fl w := by
  unfold fl
  rw [if_neg (by omega)]
  split <;> omega
theorem p_is01 (x : Int32) : f_X7_isZeroOrOne x = some (if x = 0 ∨ x = 1 then 1 else 0) := by
  rw [f_X7_isZeroOrOne, f_X7_isZeroOrOne_J9]
  by_cases h0 : x = 0
  · simp [h0]
  · by_cases h1 : x = 1 <;> simp [h0, h1]
theorem p_fall {w : Nat} (h : w < 2 ^ 31) : f_X7_fallOf (nI w) = some (nI (fl w)) := by
  rw [f_X7_fallOf]
  simp (disch := omega) only [fa_lit, nI_leI, pk_div, lt_v]
  unfold fl
  by_cases h0 : w = 0
  · simp [h0, nI_0]
  · by_cases h1 : w < 16
    · rw [if_pos (by omega), if_neg (by omega), if_neg h0, if_pos h1]
    · rw [if_pos (by omega), if_pos (by omega), if_neg h0, if_neg h1]
theorem p_flow {h g : Nat} (hh : h ≤ 300) (hg : g < 2 ^ 30) : f_X7_flowOf (nI h) (nI g) = some (nI (fw h g)) := by
  rw [f_X7_flowOf]
  unfold fw
  by_cases h1 : g < 10
  · simp (disch := omega) only [fa_lit, nI_leI]
    rw [if_neg (by omega), if_pos h1]
  · simp (disch := omega) only [fa_lit, nI_leI, nI_eq, pk_mul, pk_div]
    rw [if_pos (by omega), gd_t (by omega), if_neg h1]
theorem p_mark {k b g : Nat} (hk : k < 2) (hb : b < 2) (hg : g < 2 ^ 20) : f_X7_markOf (nI k) (nI b) (nI g) = some (nI (4 * g + 2 * b + k)) := by
  have hs : nI g <<< ((2 : Int32) &&& 31) = nI (g * 2 ^ 2) := pk_shlN _ 2 (by decide) (by omega)
  have o1 : ∀ a, a < 4 → nI (g * 2 ^ 2) ||| nI a = nI (4 * g + a) := fun a ha => by
    rw [Nat.mul_comm]
    exact fa_or_sum (k := 2) g ha
  have o2 : nI (4 * g + 2) ||| nI 1 = nI (4 * g + 3) := by
    have := fa_or_sum (k := 1) (2 * g + 1) (a := 1) (by decide)
    rw [show 2 ^ 1 * (2 * g + 1) = 4 * g + 2 by omega] at this
    exact this
  have o3 : nI (4 * g) ||| nI 1 = nI (4 * g + 1) := fa_or_sum (k := 2) g (by decide)
  have o4 : ∀ n, nI n ||| nI 0 = nI n := fun n => by rw [fa_or, Nat.or_zero]
  rw [f_X7_markOf, f_X7_markOf_J12, f_X7_markOf_J12]
  simp only [f_X7_markOf_J22, lt_v, hs]
  have hk' : k = 0 ∨ k = 1 := by omega
  have hb' : b = 0 ∨ b = 1 := by omega
  rcases hk' with rfl | rfl <;> rcases hb' with rfl | rfl
  · simp only [fa_lit, if_pos]
    rw [o1 0 (by decide), o4]
  · rw [if_neg (by decide), if_pos (by decide)]
    simp only [fa_lit]
    rw [o1 2 (by decide), o4]
  · rw [if_pos (by decide), if_neg (by decide)]
    simp only [fa_lit]
    rw [o1 0 (by decide), Nat.add_zero, o3]
  · rw [if_neg (by decide), if_neg (by decide)]
    simp only [fa_lit]
    rw [o1 2 (by decide), o2]
theorem p_kindOf (m : Nat) : f_X7_kindOfMark (nI m) = some (nI (m % 2)) := by
  rw [f_X7_kindOfMark]
  exact so_inj (fa_mask m 1)
theorem fa_and2 (m : Nat) : nI m &&& (2 : Int32) = nI (m / 2 % 2 * 2) := by
  show nI m &&& nI 2 = _
  rw [fa_and]
  refine nI_inj ?_
  apply Nat.eq_of_testBit_eq
  intro i
  rw [Nat.testBit_and, show (2 : Nat) = 2 ^ 1 by decide, Nat.testBit_two_pow, Nat.mul_comm, Nat.testBit_two_pow_mul]
  rcases Nat.lt_or_ge i 1 with q | q
  · have : i = 0 := by omega
    subst this
    simp
  · by_cases e : i = 1
    · subst e
      simp [Nat.testBit, Nat.shiftRight_eq_div_pow]
    · have hlt : m / 2 % 2 < 2 ^ (i - 1) := Nat.lt_of_lt_of_le (Nat.mod_lt _ (by decide)) (by
        have : 2 ^ 1 ≤ 2 ^ (i - 1) := Nat.pow_le_pow_right (by decide) (by omega)
        omega)
      rw [show (2 : Nat) ^ 1 = 2 by decide, Nat.testBit_lt_two_pow hlt]
      simp [Ne.symm e]
theorem p_burrOf {m : Nat} (h : m < 2 ^ 31) : f_X7_burrOfMark (nI m) = some (nI (m / 2 % 2)) := by
  rw [f_X7_burrOfMark, fa_and2, pk_shrN (by omega) _ 1 (by decide)]
  exact so_inj (nI_inj (by omega))
theorem p_gapOf {m : Nat} (h : m < 2 ^ 31) : f_X7_gapOfMark (nI m) = some (nI (m / 4)) := by
  rw [f_X7_gapOfMark, pk_shrN h _ 2 (by decide)]
theorem p_gapAt {d w : Nat} (hd : d < 2 ^ 20) (hw : w < 2 ^ 20) : f_X0_gapAt (nI d) (nI w) = some (nI (gp d w)) := by
  rw [f_X0_gapAt]
  unfold gp
  simp (disch := omega) only [fa_lit, pk_mul, pk_div, lt_v]
  by_cases h : w / 5 ≤ 10 * d
  · rw [pk_sub h]
    by_cases h2 : 10 < 10 * d - w / 5
    · rw [if_pos (nI_lt h2 (by omega))]
      exact so_inj (nI_inj (by omega))
    · rw [if_neg (nI_nlt (by omega) (by omega))]
      exact so_inj (nI_inj (by omega))
  · have hn : nI (10 * d) - nI (w / 5) < 0 := pk_sneg (by omega) (by omega)
    rw [if_neg (fun q => ?_)]
    · exact so_inj (nI_inj (by omega))
    · rw [Int32.lt_iff_toInt_lt] at hn q
      rw [nI_toInt (by decide)] at q
      rw [Int32.toInt_zero] at hn
      omega
theorem p_gap {d w : Nat} (hd : d < 2 ^ 20) (hw : w < 2 ^ 20) : f_X0_gap (nI d) (nI w) = some (nI (gp d w)) := by
  rw [f_X0_gap, p_gapAt hd hw]
  rfl
theorem p_warm {a w : Nat} (ha : a < 2 ^ 20) (hw : w < 2 ^ 20) (g : Int32) : f_X0_warmByGrinding (nI a) (nI w) g = some (nI (min 300 (w + a / 4)), g + nI a) := by
  rw [f_X0_warmByGrinding]
  simp (disch := omega) only [fa_lit, pk_div, nI_add, nI_ltI, lt_v]
  by_cases h : w + a / 4 < 300
  · rw [if_pos h]
    exact so_inj (Prod.ext (nI_inj (by show _ = _; omega)) rfl)
  · rw [if_neg h]
    exact so_inj (Prod.ext (nI_inj (by show _ = _; omega)) rfl)
theorem cl_zero : ∀ n, cl n 0 = 0
  | 0 => rfl
  | n + 1 => cl_zero n
theorem p_cool_L {T : Nat} (hT : T < 2 ^ 30) : ∀ (w i fuel : Nat), w ≤ 300 → w < fuel → i < 2 ^ 30 → f_X0_cool_L2 (nI T) fuel (nI i) (nI w) = some (nI (cl (T - i) w)) := by
  intro w
  induction w using Nat.strongRecOn with
  | _ w ih =>
    intro i fuel hw hf hi
    obtain ⟨fu, rfl⟩ : ∃ fu, fuel = fu + 1 := ⟨fuel - 1, by omega⟩
    rw [f_X0_cool_L2]
    by_cases h1 : T ≤ i
    · rw [if_pos (nI_le h1 (by omega)), show T - i = 0 by omega]
      rfl
    · rw [if_neg (nI_ge (by omega) (by omega))]
      by_cases h2 : w = 0
      · subst h2
        rw [if_pos (by rw [nI_0]; exact Int32.le_refl 0), cl_zero]
      · rw [if_neg (nI_nle (by omega) (by omega)), p_fall (by omega)]
        have hl := fl_le w
        have hp := fl_pos (w := w) (by omega)
        simp only [Option.bind_some, lt_v]
        rw [pk_sub hl, fa_lit, nI_add, ih (w - fl w) (by omega) (i + 1) fu (by omega) (by omega) (by omega)]
        obtain ⟨k, hk⟩ : ∃ k, T - i = k + 1 := ⟨T - i - 1, by omega⟩
        rw [show T - (i + 1) = k by omega, hk]
        rfl
theorem p_cool {T w : Nat} (hT : T < 2 ^ 30) (hw : w ≤ 300) : f_X0_cool (nI T) (nI w) = some (nI (cl T w)) := by
  rw [f_X0_cool]
  have := p_cool_L hT w 0 FU hw (by show w < 20000; omega) (by omega)
  rw [nI_0] at this
  exact this
theorem p_coolings_L {t : Nat} (ht : t < 2 ^ 30) (w0 : Int32) : ∀ (w i fuel : Nat), w + i ≤ 300 → w < fuel → f_X0_coolingsTo_L7 w0 (nI t) fuel (nI i) (nI w) = some (nI (i + ct (300 - i) w t)) := by
  intro w
  induction w using Nat.strongRecOn with
  | _ w ih =>
    intro i fuel hw hf
    obtain ⟨fu, rfl⟩ : ∃ fu, fuel = fu + 1 := ⟨fuel - 1, by omega⟩
    rw [f_X0_coolingsTo_L7]
    by_cases h1 : w ≤ t
    · rw [if_pos (nI_le h1 (by omega))]
      cases hk : 300 - i with
      | zero => rfl
      | succ k => rw [ct, if_neg (by omega)]; rfl
    · rw [if_neg (nI_ge (by omega) (by omega)), if_neg (by rw [fa_lit 300]; exact nI_ge (by omega) (by decide)), p_fall (by omega)]
      have hl := fl_le w
      have hp := fl_pos (w := w) (by omega)
      simp only [Option.bind_some, lt_v]
      rw [pk_sub hl, fa_lit, nI_add, ih (w - fl w) (by omega) (i + 1) fu (by omega) (by omega)]
      obtain ⟨k, hk⟩ : ∃ k, 300 - i = k + 1 := ⟨300 - i - 1, by omega⟩
      rw [show 300 - (i + 1) = k by omega, hk, ct, if_pos (by omega)]
      exact so_inj (nI_inj (by omega))
theorem p_coolings {t w : Nat} (ht : t < 2 ^ 30) (hw : w ≤ 300) : f_X0_coolingsTo (nI t) (nI w) = some (nI (ct 300 w t)) := by
  rw [f_X0_coolingsTo]
  have := p_coolings_L ht (nI w) w 0 FU (by omega) (by show w < 20000; omega)
  rw [nI_0, Nat.zero_add] at this
  exact this
theorem p_correct {d t g : Nat} (hd : d ≤ 60) (ht : t ≤ 30000) (hg : 100 ≤ g) (hg2 : g ≤ 600) (k : Int32) : f_X0_correctBy (nI t) (nI g) (nI d) k = some (nI (cor d t g), k + 1) := by
  have hdt : d * t ≤ 60 * 30000 := Nat.mul_le_mul hd ht
  rw [f_X0_correctBy]
  unfold cor
  generalize hm : d * t = m at hdt ⊢
  rw [pk_mul, hm]
  have hq : (m + g / 2) / g ≤ m + g / 2 := Nat.div_le_self _ _
  generalize hz : (m + g / 2) / g = z at hq ⊢
  rw [fa_lit 1, fa_lit 2, fa_lit 60, if_pos (nI_lt (by omega) (by omega)), lt_v, gd_t (nI_ne0 (by omega) (by omega)), pk_div (by omega) (by decide) (by decide), nI_add, pk_div (by omega) (by omega) (by omega), hz, lt_v]
  by_cases h1 : z < 60
  · rw [if_pos (nI_lt h1 (by decide)), lt_v]
    by_cases h2 : 1 < z
    · rw [if_pos (nI_lt h2 (by omega)), lt_v, lt_v]
      exact so_inj (Prod.ext (nI_inj (by show _ = _; omega)) rfl)
    · rw [if_neg (nI_nlt (by omega) (by decide)), lt_v, lt_v]
      exact so_inj (Prod.ext (nI_inj (by show _ = _; omega)) rfl)
  · rw [if_neg (nI_nlt (by omega) (by omega)), lt_v, if_pos (nI_lt (by decide) (by decide)), lt_v, lt_v]
    exact so_inj (Prod.ext (nI_inj (by show _ = _; omega)) rfl)
end
section
/-! rows of amounts with marks, as lists -/
def tot : List (Nat × Nat) → Nat
  | [] => 0
  | p :: L => p.1 + tot L
def lk (L : List (Nat × Nat)) (k : Nat) : Nat × Nat := L.getD k (0, 0)
theorem lk_0 (p : Nat × Nat) (L : List (Nat × Nat)) : lk (p :: L) 0 = p := rfl
theorem lk_s (p : Nat × Nat) (L : List (Nat × Nat)) (k : Nat) : lk (p :: L) (k + 1) = lk L k := rfl
theorem lk_l {L K : List (Nat × Nat)} {k : Nat} (h : k < L.length) : lk (L ++ K) k = lk L k := by
  unfold lk
  rw [List.getD_eq_getElem?_getD, List.getD_eq_getElem?_getD, List.getElem?_append_left h]
theorem lk_r {L K : List (Nat × Nat)} {k : Nat} : lk (L ++ K) (L.length + k) = lk K k := by
  unfold lk
  rw [List.getD_eq_getElem?_getD, List.getD_eq_getElem?_getD, List.getElem?_append_right (by omega)]
  congr 2
  omega
theorem lk_m {L : List (Nat × Nat)} {k : Nat} (h : k < L.length) : lk L k ∈ L := by
  unfold lk
  rw [List.getD_eq_getElem?_getD, List.getElem?_eq_getElem h]
  exact List.getElem_mem h
theorem tot_app (L K : List (Nat × Nat)) : tot (L ++ K) = tot L + tot K := by
  induction L with
  | nil => simp [tot]
  | cons p L ih => simp only [List.cons_append, tot, ih]; omega
/-- what an object of a row holds -/
def rowR (L : List (Nat × Nat)) (A M : Nat → Int32) (n t : Int32) : Prop := n = nI L.length ∧ t = nI (tot L) ∧ ∀ k : Nat, k < L.length → A k = nI (lk L k).1 ∧ M k = nI (lk L k).2
theorem rowR_nil (A M : Nat → Int32) : rowR [] A M 0 0 := ⟨rfl, rfl, fun k h => absurd h (Nat.not_lt_zero k)⟩
/-- amounts of 1 at least, all small -/
def okR (L : List (Nat × Nat)) : Prop := ∀ p ∈ L, 1 ≤ p.1 ∧ p.1 ≤ 4000 ∧ p.2 < 4096
theorem okR_c {p : Nat × Nat} {L : List (Nat × Nat)} (h : okR (p :: L)) : (1 ≤ p.1 ∧ p.1 ≤ 4000 ∧ p.2 < 4096) ∧ okR L := ⟨h p List.mem_cons_self, fun q hq => h q (List.mem_cons_of_mem _ hq)⟩
theorem okR_cc {p : Nat × Nat} {L : List (Nat × Nat)} (h : 1 ≤ p.1 ∧ p.1 ≤ 4000 ∧ p.2 < 4096) (h2 : okR L) : okR (p :: L) := fun q hq => by
  rcases List.mem_cons.mp hq with rfl | hq
  · exact h
  · exact h2 q hq
theorem okR_app {L K : List (Nat × Nat)} (h : okR L) (h2 : okR K) : okR (L ++ K) := fun q hq => by
  rcases List.mem_append.mp hq with hq | hq
  · exact h q hq
  · exact h2 q hq
theorem len_tot {L : List (Nat × Nat)} (h : okR L) : L.length ≤ tot L := by
  induction L with
  | nil => exact Nat.le_refl 0
  | cons p L ih =>
    have h2 := ih (okR_c h).2
    have h1 := (okR_c h).1.1
    simp only [List.length_cons, tot]
    omega
theorem p_append {N a mk : Nat} {L : List (Nat × Nat)} {A M : Nat → Int32} {n t : Int32} (h : rowR L A M n t) (hN : L.length < N) (hN2 : N < 2 ^ 30) : ∃ A' M' : Nat → Int32, f_X5_append N (nI a) (nI mk) A M n t = some (A', M', nI (L.length + 1), nI (tot L + a)) ∧ rowR (L ++ [(a, mk)]) A' M' (nI (L.length + 1)) (nI (tot L + a)) := by
  obtain ⟨rfl, rfl, hk⟩ := h
  have hg := nI_in (c := L.length) (N := N) hN (by omega)
  refine ⟨upd A L.length (nI a), upd M L.length (nI mk), ?_, ?_, ?_, ?_⟩
  · rw [f_X5_append, if_neg (nI_ge hN (by omega))]
    simp only [gd_t hg, lt_v]
    simp only [nI_clamp (show L.length < 2 ^ 31 by omega), fa_L, nI_add]
  · rw [List.length_append]; rfl
  · rw [tot_app]; rfl
  · intro k hk2
    rw [List.length_append, List.length_singleton] at hk2
    by_cases e : k = L.length
    · subst e
      have := lk_r (L := L) (K := [(a, mk)]) (k := 0)
      rw [Nat.add_zero] at this
      rw [this, lk_0]
      exact ⟨pk_us, pk_us⟩
    · rw [lk_l (by omega), pk_un e, pk_un e]
      exact hk k (by omega)
theorem p_addToLast {N a : Nat} {L : List (Nat × Nat)} {A M : Nat → Int32} {n t : Int32} {b mk : Nat} (h : rowR (L ++ [(b, mk)]) A M n t) (hN : L.length < N) (hN2 : N < 2 ^ 30) : ∃ A' : Nat → Int32, f_X5_addToLast N (nI a) A n t = some (A', nI (tot (L ++ [(b + a, mk)]))) ∧ rowR (L ++ [(b + a, mk)]) A' M n (nI (tot (L ++ [(b + a, mk)]))) := by
  obtain ⟨rfl, rfl, hk⟩ := h
  have hlen : (L ++ [(b, mk)]).length = L.length + 1 := by rw [List.length_append]; rfl
  rw [hlen] at hk ⊢
  have hg := nI_in (c := L.length) (N := N) hN (by omega)
  have hl := hk L.length (by omega)
  have hr := lk_r (L := L) (K := [(b, mk)]) (k := 0)
  rw [Nat.add_zero, lk_0] at hr
  rw [hr] at hl
  have ht : tot (L ++ [(b + a, mk)]) = tot (L ++ [(b, mk)]) + a := by
    rw [tot_app, tot_app]; simp only [tot]; omega
  refine ⟨upd A L.length (nI (b + a)), ?_, ?_, rfl, ?_⟩
  · rw [f_X5_addToLast, if_neg (nI_nle (by omega) (by omega)), fa_L, pk_sub (by omega), Nat.add_sub_cancel]
    simp only [gd_t hg, lt_v]
    simp only [nI_clamp (show L.length < 2 ^ 31 by omega), hl.1, nI_add, ht]
  · rw [List.length_append]; rfl
  · intro k hk2
    rw [List.length_append, List.length_singleton] at hk2
    by_cases e : k = L.length
    · subst e
      have := lk_r (L := L) (K := [(b + a, mk)]) (k := 0)
      rw [Nat.add_zero] at this
      rw [this, lk_0]
      exact ⟨pk_us, hl.2⟩
    · rw [lk_l (by omega), pk_un e]
      have := hk k (by omega)
      rw [lk_l (by omega)] at this
      exact this
theorem p_amountAt {N k : Nat} {L : List (Nat × Nat)} {A M : Nat → Int32} {n t : Int32} (h : rowR L A M n t) (hN : L.length ≤ N) (hN2 : N < 2 ^ 30) (hk : k < L.length) : f_X5_amountAt N (nI k) A n = some (nI (lk L k).1) := by
  obtain ⟨rfl, rfl, hh⟩ := h
  have hg := nI_in (c := k) (N := N) (by omega) (by omega)
  rw [f_X5_amountAt, if_neg (nI_pos (by omega)), if_pos (nI_lt hk (by omega)), gd_t hg, nI_clamp (by omega), (hh k hk).1]
theorem p_markAt {N k : Nat} {L : List (Nat × Nat)} {A M : Nat → Int32} {n t : Int32} (h : rowR L A M n t) (hN : L.length ≤ N) (hN2 : N < 2 ^ 30) (hk : k < L.length) : f_X5_markAt N (nI k) M n = some (nI (lk L k).2) := by
  obtain ⟨rfl, rfl, hh⟩ := h
  have hg := nI_in (c := k) (N := N) (by omega) (by omega)
  rw [f_X5_markAt, if_neg (nI_pos (by omega)), if_pos (nI_lt hk (by omega)), gd_t hg, nI_clamp (by omega), (hh k hk).2]
theorem p_dropFirst {N e : Nat} {L : List (Nat × Nat)} {A M : Nat → Int32} (hN : e + L.length ≤ N) (hN2 : N < 2 ^ 30) (hh : ∀ k : Nat, k < L.length → A (e + k) = nI (lk L k).1 ∧ M (e + k) = nI (lk L k).2) : ∃ A' M' : Nat → Int32, f_X5_dropFirst N (nI e) A M (nI (e + L.length)) = some (A', M', nI L.length) ∧ rowR L A' M' (nI L.length) (nI (tot L)) := by
  have hg : ¬ nI e < 0 ∧ ¬ (0 : Int32) < 0 ∧ ¬ nI L.length < 0 ∧ (nI e).toNatClampNeg + (nI L.length).toNatClampNeg ≤ N ∧ (0 : Int32).toNatClampNeg + (nI L.length).toNatClampNeg ≤ N := by
    rw [nI_clamp (by omega), nI_clamp (by omega)]
    exact ⟨nI_pos (by omega), by decide, nI_pos (by omega), hN, by show 0 + _ ≤ _; omega⟩
  refine ⟨va_cpy A A e 0 L.length, va_cpy M M e 0 L.length, ?_, rfl, rfl, ?_⟩
  · rw [f_X5_dropFirst, pk_sub (by omega), Nat.add_sub_cancel_left]
    simp only [gd_t hg, lt_v]
    simp only [nI_clamp (show e < 2 ^ 31 by omega), nI_clamp (show L.length < 2 ^ 31 by omega)]
    rfl
  · intro k hk
    rw [pk_cpy_in (Nat.zero_le _) (by omega), pk_cpy_in (Nat.zero_le _) (by omega)]
    exact hh k hk
/-- the earliest ones go, l altogether: what goes, what stays -/
def tk : Nat → List (Nat × Nat) → List (Nat × Nat) × List (Nat × Nat)
  | _, [] => ([], [])
  | l, p :: L => if l = 0 then ([], p :: L) else if l < p.1 then ([(l, p.2)], (p.1 - l, p.2) :: L) else ((p.1, p.2) :: (tk (l - p.1) L).1, (tk (l - p.1) L).2)
theorem tk_0 (L : List (Nat × Nat)) : tk 0 L = ([], L) := by
  cases L with
  | nil => rfl
  | cons p L => rw [tk, if_pos rfl]
theorem tk_tot : ∀ (L : List (Nat × Nat)) (l : Nat), tot (tk l L).1 = min l (tot L) ∧ tot (tk l L).2 = tot L - l
  | [], l => by simp [tk, tot]
  | p :: L, l => by
    rw [tk]
    split
    · simp only [tot]; omega
    · split
      · simp only [tot]; omega
      · have h := tk_tot L (l - p.1)
        simp only [tot, h.1, h.2]
        omega
theorem tk_ok : ∀ {L : List (Nat × Nat)} (l : Nat), okR L → okR (tk l L).1 ∧ okR (tk l L).2
  | [], l, h => ⟨h, h⟩
  | p :: L, l, h => by
    have h1 := (okR_c h).1
    have h2 := (okR_c h).2
    rw [tk]
    split
    · exact ⟨fun q hq => (by cases hq), h⟩
    · split
      · exact ⟨okR_cc (by simp only; omega) (fun q hq => (by cases hq)), okR_cc (by simp only; omega) h2⟩
      · have h3 := tk_ok (l - p.1) h2
        exact ⟨okR_cc h1 h3.1, h3.2⟩
theorem tk_len : ∀ (L : List (Nat × Nat)) (l : Nat), (tk l L).1.length ≤ L.length ∧ (tk l L).2.length ≤ L.length
  | [], l => ⟨Nat.le_refl _, Nat.le_refl _⟩
  | p :: L, l => by
    rw [tk]
    split
    · exact ⟨Nat.zero_le _, Nat.le_refl _⟩
    · split
      · simp only [List.length_cons, List.length_nil]; omega
      · have h := tk_len L (l - p.1)
        simp only [List.length_cons]
        omega
/-- marks changed on the way -/
def mk2 (g : Nat → Nat) (L : List (Nat × Nat)) : List (Nat × Nat) := L.map (fun p => (p.1, g p.2))
theorem mk2_tot (g : Nat → Nat) (L : List (Nat × Nat)) : tot (mk2 g L) = tot L := by
  induction L with
  | nil => rfl
  | cons p L ih => show p.1 + tot (mk2 g L) = _; rw [ih]; rfl
theorem mk2_len (g : Nat → Nat) (L : List (Nat × Nat)) : (mk2 g L).length = L.length := List.length_map _
theorem app1 {α : Type} (L : List α) (x : α) (K : List α) : L ++ [x] ++ K = L ++ x :: K := by simp
theorem p_letL {N N2 : Nat} {y2 : Int32} {g : Nat → Nat} (hN : N < 2 ^ 30) (hN2 : N2 < 2 ^ 30) (y1 t : Int32) : ∀ (Lr : List (Nat × Nat)) (l i fuel : Nat) (A M A2 M2 : Nat → Int32) (n2 t2 : Int32) (L2 : List (Nat × Nat)), okR Lr → l < 2 ^ 30 → (∀ k : Nat, k < Lr.length → A (i + k) = nI (lk Lr k).1 ∧ M (i + k) = nI (lk Lr k).2) → i + Lr.length ≤ N → rowR L2 A2 M2 n2 t2 → L2.length + (tk l Lr).1.length ≤ N2 → Lr.length < fuel → (∀ p ∈ Lr, nI p.2 ||| y2 = nI (g p.2)) →
    ∃ (A' A2' M2' : Nat → Int32) (e : Nat), f_X5_letOut_L9 N N2 y1 y2 fuel (nI l) (nI i) (nI i) A M (nI (i + Lr.length)) t A2 M2 n2 t2 = f_X5_letOut_J90 N N2 y1 (nI (l - tot Lr)) (nI e) A' M (nI (i + Lr.length)) t A2' M2' (nI (L2 ++ mk2 g (tk l Lr).1).length) (nI (tot (L2 ++ mk2 g (tk l Lr).1))) ∧ rowR (L2 ++ mk2 g (tk l Lr).1) A2' M2' (nI (L2 ++ mk2 g (tk l Lr).1).length) (nI (tot (L2 ++ mk2 g (tk l Lr).1))) ∧ e + (tk l Lr).2.length = i + Lr.length ∧ ∀ k : Nat, k < (tk l Lr).2.length → A' (e + k) = nI (lk (tk l Lr).2 k).1 ∧ M (e + k) = nI (lk (tk l Lr).2 k).2 := by
  intro Lr
  induction Lr with
  | nil =>
    intro l i fuel A M A2 M2 n2 t2 L2 hok hl hA hi hr hn2 hf hg
    obtain ⟨fu, rfl⟩ : ∃ fu, fuel = fu + 1 := ⟨fuel - 1, by omega⟩
    obtain ⟨rfl, rfl, hr3⟩ := hr
    refine ⟨A, A2, M2, i, ?_, ?_, rfl, fun k h => absurd h (Nat.not_lt_zero k)⟩
    · rw [f_X5_letOut_L9, if_pos (show nI (i + ([] : List (Nat × Nat)).length) ≤ nI i from nI_le (Nat.le_refl _) (by omega))]
      simp only [tk, mk2, List.map_nil, List.append_nil, tot, Nat.sub_zero]
    · simp only [tk, mk2, List.map_nil, List.append_nil]
      exact ⟨rfl, rfl, hr3⟩
  | cons p Lr ih =>
    intro l i fuel A M A2 M2 n2 t2 L2 hok hl hA hi hr hn2 hf hg
    obtain ⟨fu, rfl⟩ : ∃ fu, fuel = fu + 1 := ⟨fuel - 1, by omega⟩
    simp only [List.length_cons] at hi hf ⊢
    obtain ⟨hp, hok2⟩ := okR_c hok
    by_cases h0 : l = 0
    · subst h0
      obtain ⟨rfl, rfl, hr3⟩ := hr
      refine ⟨A, A2, M2, i, ?_, ?_, ?_, ?_⟩
      · rw [f_X5_letOut_L9, if_neg (nI_ge (by omega) (by omega)), if_pos (by rw [nI_0]; exact Int32.le_refl 0)]
        simp only [tk, if_pos, mk2, List.map_nil, List.append_nil, Nat.zero_sub]
      · simp only [tk, if_pos, mk2, List.map_nil, List.append_nil]
        exact ⟨rfl, rfl, hr3⟩
      · simp only [tk, if_pos, List.length_cons]
      · simp only [tk, if_pos]
        exact hA
    · have hgi := nI_in (c := i) (N := N) (by omega) (by omega)
      have hA0 := hA 0 (by simp)
      rw [Nat.add_zero, lk_0] at hA0
      have hm := hg p List.mem_cons_self
      by_cases h1 : l < p.1
      · -- a part of the first goes
        rw [tk, if_neg h0, if_pos h1] at hn2 ⊢
        simp only [List.length_cons, List.length_nil] at hn2
        obtain ⟨A3, M3, e3, hr3⟩ := p_append (a := l) (mk := g p.2) hr (by omega) hN2
        refine ⟨upd A i (nI (p.1 - l)), A3, M3, i, ?_, ?_, ?_, ?_⟩
        · rw [f_X5_letOut_L9, if_neg (nI_ge (by omega) (by omega)), if_neg (nI_nle (by omega) (by omega))]
          simp only [gd_t hgi, lt_v]
          simp only [nI_clamp (show i < 2 ^ 31 by omega), hA0.1, hA0.2, hm]
          rw [if_neg (nI_nlt (by omega) (by omega)), e3]
          simp only [Option.bind_some, pk_us, f_X5_letOut_J84, lt_v]
          rw [pk_sub (by omega), if_neg (nI_ne0 (by omega) (by omega)), pk_sub (Nat.le_refl _), fa_L, nI_add, Nat.sub_self]
          obtain ⟨fu2, rfl⟩ : ∃ fu2, fu = fu2 + 1 := ⟨fu - 1, by omega⟩
          rw [f_X5_letOut_L9]
          have e1 : l - tot (p :: Lr) = 0 := by simp only [tot]; omega
          have e2 : (L2 ++ mk2 g [(l, p.2)]).length = L2.length + 1 := by rw [List.length_append]; rfl
          have e4 : tot (L2 ++ mk2 g [(l, p.2)]) = tot L2 + l := by rw [tot_app]; rfl
          rw [e1, e2, e4]
          by_cases h2 : Lr.length = 0
          · rw [if_pos (nI_le (by omega) (by omega))]
          · rw [if_neg (nI_ge (by omega) (by omega)), if_pos (by rw [nI_0]; exact Int32.le_refl 0)]
        · have e2 : (L2 ++ mk2 g [(l, p.2)]).length = L2.length + 1 := by rw [List.length_append]; rfl
          have e4 : tot (L2 ++ mk2 g [(l, p.2)]) = tot L2 + l := by rw [tot_app]; rfl
          rw [e2, e4]
          exact hr3
        · simp only [List.length_cons]
        · intro k hk
          cases k with
          | zero =>
            rw [Nat.add_zero, lk_0, pk_us]
            exact ⟨rfl, hA0.2⟩
          | succ k =>
            rw [lk_s, pk_un (by omega)]
            have := hA (k + 1) (by simp only [List.length_cons] at hk ⊢; omega)
            rw [lk_s] at this
            exact this
      · -- all of the first goes
        rw [tk, if_neg h0, if_neg h1] at hn2 ⊢
        simp only [List.length_cons] at hn2
        obtain ⟨A3, M3, e3, hr3⟩ := p_append (a := p.1) (mk := g p.2) hr (by omega) hN2
        obtain ⟨A', A2', M2', e, h5, h6, h7, h8⟩ := ih (l - p.1) (i + 1) fu (upd A i (nI 0)) M A3 M3 _ _ (L2 ++ [(p.1, g p.2)]) hok2 (by omega) (fun k hk => by
          have := hA (k + 1) (by simp only [List.length_cons]; omega)
          rw [lk_s] at this
          rw [pk_un (by omega), show i + 1 + k = i + (k + 1) by omega]
          exact this) (by omega) hr3 (by rw [List.length_append]; simp only [List.length_singleton]; omega) (by omega) (fun q hq => hg q (List.mem_cons_of_mem _ hq))
        have e6 : L2 ++ [(p.1, g p.2)] ++ mk2 g (tk (l - p.1) Lr).1 = L2 ++ mk2 g ((p.1, p.2) :: (tk (l - p.1) Lr).1) := app1 _ _ _
        rw [e6] at h5 h6
        rw [show i + 1 + Lr.length = i + (Lr.length + 1) by omega] at h5
        refine ⟨A', A2', M2', e, ?_, h6, ?_, h8⟩
        · rw [f_X5_letOut_L9, if_neg (nI_ge (by omega) (by omega)), if_neg (nI_nle (by omega) (by omega))]
          simp only [gd_t hgi, lt_v]
          simp only [nI_clamp (show i < 2 ^ 31 by omega), hA0.1, hA0.2, hm]
          have e7 : (if nI p.1 < nI l then nI p.1 else nI l) = nI p.1 := by
            by_cases h2 : p.1 < l
            · rw [if_pos (nI_lt h2 (by omega))]
            · rw [if_neg (nI_nlt (by omega) (by omega))]
              exact nI_inj (by omega)
          rw [e7, e3]
          simp only [Option.bind_some, pk_us, f_X5_letOut_J84, lt_v]
          rw [pk_sub (Nat.le_refl _), Nat.sub_self, if_pos nI_0, pk_sub (by omega), fa_L, nI_add, h5]
          rw [show l - p.1 - tot Lr = l - tot (p :: Lr) by simp only [tot]; omega]
        · show e + (tk (l - p.1) Lr).2.length = _
          omega
theorem p_letOut {N N2 l : Nat} {y2 : Int32} {g : Nat → Nat} {L L2 : List (Nat × Nat)} {A M A2 M2 : Nat → Int32} {n t n2 t2 : Int32} (hN : N < 20000) (hN2 : N2 < 2 ^ 30) (hok : okR L) (hr : rowR L A M n t) (hr2 : rowR L2 A2 M2 n2 t2) (hl : l ≤ tot L) (ht : tot L < 2 ^ 30) (hn : L.length ≤ N) (hn2 : L2.length + (tk l L).1.length ≤ N2) (hg : ∀ p ∈ L, nI p.2 ||| y2 = nI (g p.2)) :
    ∃ R, f_X5_letOut N N2 (nI l) y2 A M n t A2 M2 n2 t2 = some R ∧ rowR (tk l L).2 R.1 R.2.1 R.2.2.1 R.2.2.2.1 ∧ rowR (L2 ++ mk2 g (tk l L).1) R.2.2.2.2.1 R.2.2.2.2.2.1 R.2.2.2.2.2.2.1 R.2.2.2.2.2.2.2 := by
  obtain ⟨rfl, rfl, hA⟩ := hr
  obtain ⟨A', A2', M2', e, h5, h6, h7, h8⟩ := p_letL (N := N) (N2 := N2) (y2 := y2) (g := g) (by omega) hN2 (nI l) (nI (tot L)) L l 0 FU A M A2 M2 n2 t2 L2 hok (by omega) (fun k hk => by rw [Nat.zero_add]; exact hA k hk) (by omega) hr2 hn2 (by show _ < 20000; omega) hg
  rw [Nat.zero_add] at h5 h7
  obtain ⟨A3, M3, h9, h10⟩ := p_dropFirst (N := N) (e := e) (L := (tk l L).2) (A := A') (M := M) (by omega) (by omega) h8
  rw [h7] at h9
  have ht2 := (tk_tot L l).2
  refine ⟨(A3, M3, nI (tk l L).2.length, nI (tot (tk l L).2), A2', M2', _, _), ?_, h10, h6⟩
  rw [f_X5_letOut, ← nI_0, h5, f_X5_letOut_J90, h9]
  simp only [lt_v, Option.bind_some]
  rw [show l - tot L = 0 by omega, pk_sub (Nat.zero_le _), Nat.sub_zero, pk_sub hl, ht2]
  rfl
end
section
/-! the rest of a row's and the hopper's methods -/
theorem p_copyRow {N : Nat} {L : List (Nat × Nat)} {A M A2 M2 : Nat → Int32} {n t n2 t2 : Int32} (hr : rowR L A2 M2 n2 t2) (hn : L.length ≤ N) (hN : N < 2 ^ 30) : ∃ R, f_X5_copyFrom N N A M n t A2 M2 n2 t2 = some R ∧ rowR L R.1 R.2.1 R.2.2.1 R.2.2.2 := by
  obtain ⟨rfl, rfl, hk⟩ := hr
  have e : (if nI N < nI L.length then nI N else nI L.length) = nI L.length := if_neg (nI_nlt hn (by omega))
  have hg : ¬ (0 : Int32) < 0 ∧ ¬ (0 : Int32) < 0 ∧ ¬ nI L.length < 0 ∧ (0 : Int32).toNatClampNeg + (nI L.length).toNatClampNeg ≤ N ∧ (0 : Int32).toNatClampNeg + (nI L.length).toNatClampNeg ≤ N := by
    rw [nI_clamp (by omega)]
    exact ⟨by decide, by decide, nI_pos (by omega), by show 0 + _ ≤ _; omega, by show 0 + _ ≤ _; omega⟩
  refine ⟨(va_cpy A2 A 0 0 L.length, va_cpy M2 M 0 0 L.length, nI L.length, nI (tot L)), ?_, rfl, rfl, ?_⟩
  · rw [f_X5_copyFrom, e]
    simp only [lt_v, gd_t hg]
    simp only [nI_clamp (show L.length < 2 ^ 31 by omega)]
    rfl
  · intro k h
    show va_cpy A2 A 0 0 L.length k = _ ∧ va_cpy M2 M 0 0 L.length k = _
    rw [pk_cpy_in (Nat.zero_le _) (by omega), pk_cpy_in (Nat.zero_le _) (by omega), Nat.zero_add, Nat.sub_zero]
    exact hk k h
/-- how much of it satisfies b -/
def sumIf (b : Nat → Bool) : List (Nat × Nat) → Nat
  | [] => 0
  | p :: L => (if b p.2 then p.1 else 0) + sumIf b L
theorem sumIf_le (b : Nat → Bool) : ∀ L, sumIf b L ≤ tot L
  | [] => Nat.le_refl 0
  | p :: L => by
    have := sumIf_le b L
    simp only [sumIf, tot]
    split <;> omega
theorem p_mostly_L {N : Nat} {y1 : Int32} {b : Nat → Bool} {A M : Nat → Int32} {T : Nat} (hN : N < 2 ^ 30) (hT : T < 2 ^ 30) : ∀ (Lr : List (Nat × Nat)) (i h fuel : Nat), (∀ k : Nat, k < Lr.length → A (i + k) = nI (lk Lr k).1 ∧ M (i + k) = nI (lk Lr k).2) → i + Lr.length ≤ N → Lr.length < fuel → (∀ p ∈ Lr, (nI p.2 &&& y1 = 0 ↔ b p.2 = false)) → h + tot Lr ≤ T →
    f_X5_isMostly_L4 N A M (nI (i + Lr.length)) (nI T) y1 fuel (nI h) (nI i) = some (if T < 2 * (h + sumIf b Lr) then 1 else 0) := by
  intro Lr
  induction Lr with
  | nil =>
    intro i h fuel hA hi hf hb hh
    obtain ⟨fu, rfl⟩ : ∃ fu, fuel = fu + 1 := ⟨fuel - 1, by omega⟩
    simp only [tot, List.length_nil] at hh hi
    rw [f_X5_isMostly_L4, if_pos (show nI (i + ([] : List (Nat × Nat)).length) ≤ nI i from nI_le (Nat.le_refl _) (by omega)), pk_sub (by omega)]
    rw [show h + sumIf b [] = h from Nat.add_zero h]
    by_cases q : T < 2 * h
    · rw [if_neg (nI_ge (by omega) (by omega)), if_pos q]
    · rw [if_pos (nI_le (by omega) (by omega)), if_neg q]
  | cons p Lr ih =>
    intro i h fuel hA hi hf hb hh
    obtain ⟨fu, rfl⟩ : ∃ fu, fuel = fu + 1 := ⟨fuel - 1, by omega⟩
    simp only [List.length_cons] at hi hf ⊢
    simp only [tot] at hh
    have hgi := nI_in (c := i) (N := N) (by omega) (by omega)
    have hA0 := hA 0 (by simp)
    rw [Nat.add_zero, lk_0] at hA0
    have hA1 : ∀ k : Nat, k < Lr.length → A (i + 1 + k) = nI (lk Lr k).1 ∧ M (i + 1 + k) = nI (lk Lr k).2 := fun k hk => by
      have := hA (k + 1) (by simp only [List.length_cons]; omega)
      rw [lk_s, show i + (k + 1) = i + 1 + k by omega] at this
      exact this
    have hb1 := hb p List.mem_cons_self
    rw [f_X5_isMostly_L4, if_neg (nI_ge (by omega) (by omega))]
    simp only [gd_t hgi, lt_v]
    simp only [nI_clamp (show i < 2 ^ 31 by omega), hA0.1, hA0.2, f_X5_isMostly_J34, lt_v]
    rw [show i + (Lr.length + 1) = i + 1 + Lr.length by omega]
    by_cases q : b p.2 = false
    · rw [if_pos (hb1.mpr q)]
      have := ih (i + 1) h fu hA1 (by omega) (by omega) (fun x hx => hb x (List.mem_cons_of_mem _ hx)) (by omega)
      simp only [fa_L, nI_add, Nat.add_zero]
      rw [this]
      simp only [sumIf, q]
      simp
      rfl
    · rw [if_neg (fun z => q (hb1.mp z))]
      have := ih (i + 1) (h + p.1) fu hA1 (by omega) (by omega) (fun x hx => hb x (List.mem_cons_of_mem _ hx)) (by omega)
      simp only [fa_L, nI_add]
      rw [this]
      have q2 : b p.2 = true := by cases e : b p.2 <;> simp_all
      simp only [sumIf, q2, if_pos, Nat.add_assoc]
      rfl
theorem p_mostly {N : Nat} {y1 : Int32} {b : Nat → Bool} {L : List (Nat × Nat)} {A M : Nat → Int32} {n t : Int32} (hN : N < 20000) (hn : L.length ≤ N) (ht : tot L < 2 ^ 30) (hr : rowR L A M n t) (hb : ∀ p ∈ L, (nI p.2 &&& y1 = 0 ↔ b p.2 = false)) : f_X5_isMostly N y1 A M n t = some (if tot L < 2 * sumIf b L then 1 else 0) := by
  obtain ⟨rfl, rfl, hk⟩ := hr
  have := p_mostly_L (N := N) (y1 := y1) (b := b) (A := A) (M := M) (T := tot L) (by omega) ht L 0 0 FU (fun k h => by rw [Nat.zero_add]; exact hk k h) (by omega) (by show _ < 20000; omega) hb (by omega)
  rw [f_X5_isMostly, ← nI_0]
  rw [Nat.zero_add, Nat.zero_add] at this
  exact this
/-- the amount up to the latest one that is not m -/
def upTo (m : Nat) : List (Nat × Nat) → Nat → Nat → Nat
  | [], _, u => u
  | p :: L, s, u => upTo m L (s + p.1) (if p.2 = m then u else s + p.1)
theorem p_upTo_L {N m : Nat} {A M : Nat → Int32} (hN : N < 2 ^ 30) (hm : m < 2 ^ 31) : ∀ (Lr : List (Nat × Nat)) (i s u fuel : Nat), okR Lr → (∀ k : Nat, k < Lr.length → A (i + k) = nI (lk Lr k).1 ∧ M (i + k) = nI (lk Lr k).2) → i + Lr.length ≤ N → Lr.length < fuel →
    f_X5_amountUpToLastUnlike_L7 N A M (nI (i + Lr.length)) (nI m) fuel (nI s) (nI u) (nI i) = some (nI (upTo m Lr s u)) := by
  intro Lr
  induction Lr with
  | nil =>
    intro i s u fuel hok hA hi hf
    obtain ⟨fu, rfl⟩ : ∃ fu, fuel = fu + 1 := ⟨fuel - 1, by omega⟩
    simp only [List.length_nil] at hi
    rw [f_X5_amountUpToLastUnlike_L7, if_pos (show nI (i + ([] : List (Nat × Nat)).length) ≤ nI i from nI_le (Nat.le_refl _) (by omega))]
    rfl
  | cons p Lr ih =>
    intro i s u fuel hok hA hi hf
    obtain ⟨fu, rfl⟩ : ∃ fu, fuel = fu + 1 := ⟨fuel - 1, by omega⟩
    obtain ⟨hp, hok2⟩ := okR_c hok
    simp only [List.length_cons] at hi hf ⊢
    have hgi := nI_in (c := i) (N := N) (by omega) (by omega)
    have hA0 := hA 0 (by simp)
    rw [Nat.add_zero, lk_0] at hA0
    have hA1 : ∀ k : Nat, k < Lr.length → A (i + 1 + k) = nI (lk Lr k).1 ∧ M (i + 1 + k) = nI (lk Lr k).2 := fun k hk => by
      have := hA (k + 1) (by simp only [List.length_cons]; omega)
      rw [lk_s, show i + (k + 1) = i + 1 + k by omega] at this
      exact this
    rw [f_X5_amountUpToLastUnlike_L7, if_neg (nI_ge (by omega) (by omega))]
    simp only [gd_t hgi, lt_v]
    simp only [nI_clamp (show i < 2 ^ 31 by omega), hA0.1, hA0.2, f_X5_amountUpToLastUnlike_J39, lt_v]
    rw [show i + (Lr.length + 1) = i + 1 + Lr.length by omega, upTo]
    by_cases q : p.2 = m
    · rw [if_pos (congrArg nI q), if_pos q]
      simp only [fa_L, nI_add]
      exact ih (i + 1) (s + p.1) u fu hok2 hA1 (by omega) (by omega)
    · rw [if_neg (fun z => q ((nI_eq (by omega) hm).mp z)), if_neg q]
      simp only [fa_L, nI_add]
      exact ih (i + 1) (s + p.1) (s + p.1) fu hok2 hA1 (by omega) (by omega)
theorem p_upTo {N m : Nat} {L : List (Nat × Nat)} {A M : Nat → Int32} {n t : Int32} (hN : N < 20000) (hm : m < 2 ^ 31) (hn : L.length ≤ N) (hok : okR L) (hr : rowR L A M n t) : f_X5_amountUpToLastUnlike N (nI m) A M n = some (nI (upTo m L 0 0)) := by
  obtain ⟨rfl, rfl, hk⟩ := hr
  have := p_upTo_L (N := N) (m := m) (A := A) (M := M) (by omega) hm L 0 0 0 FU hok (fun k h => by rw [Nat.zero_add]; exact hk k h) (by omega) (by show _ < 20000; omega)
  rw [f_X5_amountUpToLastUnlike, ← nI_0]
  rw [Nat.zero_add] at this
  exact this
/-! hopper -/
def ends (k : Nat) (L : List (Nat × Nat)) : Bool := match L.getLast? with
  | some p => p.2 == k
  | none => false
theorem ends_nil (k : Nat) : ends k [] = false := rfl
theorem ends_app (k : Nat) (L : List (Nat × Nat)) (p : Nat × Nat) : ends k (L ++ [p]) = (p.2 == k) := by
  unfold ends
  rw [List.getLast?_append]
  rfl
theorem snoc_of {α : Type} (L : List α) (h : L ≠ []) : ∃ K x, L = K ++ [x] := ⟨L.dropLast, L.getLast h, (List.dropLast_concat_getLast h).symm⟩
theorem p_ends {N k : Nat} {L : List (Nat × Nat)} {A M : Nat → Int32} {n t : Int32} (hr : rowR L A M n t) (hn : L.length ≤ N) (hN : N < 2 ^ 30) (hok : okR L) (hk : k < 2) : f_X3_endsWith N (nI k) M n = some (if ends k L then 1 else 0) := by
  rcases Classical.em (L = []) with rfl | h
  · obtain ⟨rfl, rfl, -⟩ := hr
    rw [f_X3_endsWith, if_pos (by show nI 0 ≤ 0; rw [nI_0]; exact Int32.le_refl 0), ends_nil]
    rfl
  · obtain ⟨K, x, rfl⟩ := snoc_of L h
    have hlen : (K ++ [x]).length = K.length + 1 := by rw [List.length_append]; rfl
    have hx := hok x (List.mem_append_right _ (List.mem_singleton.mpr rfl))
    have hm := p_markAt (N := N) (k := K.length) hr hn hN (by omega)
    have hl := lk_r (L := K) (K := [x]) (k := 0)
    rw [Nat.add_zero, lk_0] at hl
    rw [hl] at hm
    rw [f_X3_endsWith, hr.1, hlen, if_neg (nI_nle (by omega) (by omega)), fa_L, pk_sub (by omega), Nat.add_sub_cancel, ← hlen, ← hr.1, hm, ends_app]
    simp only [Option.bind_some]
    by_cases q : x.2 = k
    · rw [if_pos (congrArg nI q)]
      simp [q]
    · rw [if_neg (fun z => q ((nI_eq (by omega) (by omega)).mp z))]
      simp [q]
/-- a lot poured in -/
def pour (k a : Nat) (L : List (Nat × Nat)) : List (Nat × Nat) := if ends k L then L.dropLast ++ [((L.getLastD (0, 0)).1 + a, k)] else L ++ [(a, k)]
theorem p_pour {N k a : Nat} {L : List (Nat × Nat)} {A M : Nat → Int32} {n t : Int32} (hr : rowR L A M n t) (hn : L.length ≤ N) (hn2 : ends k L = false → L.length < N) (hN : N < 2 ^ 30) (hok : okR L) (hk : k < 2) : ∃ R, f_X3_pourIn N (nI k) (nI a) A M n t = some R ∧ rowR (pour k a L) R.1 R.2.1 R.2.2.1 R.2.2.2 := by
  rw [f_X3_pourIn, p_ends hr hn hN hok hk]
  unfold pour
  simp only [Option.bind_some]
  cases q : ends k L with
  | false =>
    obtain ⟨A', M', h1, h2⟩ := p_append (a := a) (mk := k) hr (hn2 q) hN
    refine ⟨(A', M', nI (L.length + 1), nI (tot L + a)), ?_, h2⟩
    rw [if_pos (show (if false = true then (1 : Int32) else 0) = 0 from rfl), h1]
    rfl
  | true =>
    rcases Classical.em (L = []) with rfl | h
    · rw [ends_nil] at q; cases q
    · obtain ⟨K, x, rfl⟩ := snoc_of L h
      have hlen : (K ++ [x]).length = K.length + 1 := by rw [List.length_append]; rfl
      rw [ends_app] at q
      have qx : x.2 = k := by simpa using q
      obtain ⟨A', h1, h2⟩ := p_addToLast (N := N) (a := a) (b := x.1) (mk := x.2) (L := K) hr (by omega) hN
      refine ⟨(A', M, n, nI (tot (K ++ [(x.1 + a, x.2)]))), ?_, ?_⟩
      · rw [if_pos rfl, if_neg (by decide), h1]
        rfl
      · rw [if_pos rfl, List.dropLast_concat, List.getLastD_concat, ← qx]
        exact h2
theorem pour_tot {k a : Nat} {L : List (Nat × Nat)} : tot (pour k a L) = tot L + a := by
  unfold pour
  split
  · rename_i q
    rcases Classical.em (L = []) with rfl | h
    · rw [ends_nil] at q; cases q
    · obtain ⟨K, x, rfl⟩ := snoc_of L h
      rw [List.dropLast_concat, List.getLastD_concat, tot_app, tot_app]
      simp only [tot]
      omega
  · rw [tot_app]; rfl
theorem p_letHop {N N2 l b gap : Nat} {L L2 : List (Nat × Nat)} {A M A2 M2 : Nat → Int32} {n t n2 t2 : Int32} (hN : N < 20000) (hN2 : N2 < 2 ^ 30) (hok : okR L) (hk : ∀ p ∈ L, p.2 < 2) (hb : b < 2) (hgap : gap < 2 ^ 20) (hr : rowR L A M n t) (hr2 : rowR L2 A2 M2 n2 t2) (hl : l ≤ tot L) (ht : tot L < 2 ^ 30) (hn : L.length ≤ N) (hn2 : L2.length + L.length ≤ N2) :
    ∃ R, f_X3_letOut N N2 (nI l) (nI b) (nI gap) A M n t A2 M2 n2 t2 = some R ∧ rowR (tk l L).2 R.1 R.2.1 R.2.2.1 R.2.2.2.1 ∧ rowR (L2 ++ mk2 (fun m => 4 * gap + 2 * b + m) (tk l L).1) R.2.2.2.2.1 R.2.2.2.2.2.1 R.2.2.2.2.2.2.1 R.2.2.2.2.2.2.2 := by
  obtain ⟨R, h1, h2, h3⟩ := p_letOut (y2 := nI (4 * gap + 2 * b)) (g := fun m => 4 * gap + 2 * b + m) hN hN2 hok hr hr2 hl ht hn (by have := (tk_len L l).1; omega) (fun p hp => by
    have h := hk p hp
    have e : (2 : Nat) ^ 1 * (2 * gap + b) = 4 * gap + 2 * b := by omega
    rw [fa_or, Nat.or_comm, ← fa_or, ← e]
    exact fa_or_sum (k := 1) _ (by omega))
  refine ⟨R, ?_, h2, h3⟩
  have := p_mark (k := 0) (b := b) (g := gap) (by decide) hb hgap
  rw [nI_0, Nat.add_zero] at this
  rw [f_X3_letOut, this]
  simp only [Option.bind_some]
  rw [h1]
  rfl
end
section
/-! shots that are kept: number, time, amount, burr, kind, second, portions; the latest first -/
abbrev Sh : Type := Int32 × Nat × Int32 × Int32 × Int32 × Int32 × Int32
def sk0 (K : List Sh) (k : Nat) : Sh := K.getD k (0, 0, 0, 0, 0, 0, 0)
theorem sk0_0 (x : Sh) (K : List Sh) : sk0 (x :: K) 0 = x := rfl
theorem sk0_s (x : Sh) (K : List Sh) (k : Nat) : sk0 (x :: K) (k + 1) = sk0 K k := rfl
theorem sk0_t (K : List Sh) {n k : Nat} (h : k < n) : sk0 (K.take n) k = sk0 K k := by
  unfold sk0
  rw [List.getD_eq_getElem?_getD, List.getD_eq_getElem?_getD, List.getElem?_take, if_pos h]
def shF (f : Nat → Int32) (b : Nat) (x : Sh) : Prop := f b = x.1 ∧ f (b + 1) = nI x.2.1 ∧ f (b + 2) = x.2.2.1 ∧ f (b + 3) = x.2.2.2.1 ∧ f (b + 4) = x.2.2.2.2.1 ∧ f (b + 6) = x.2.2.2.2.2.1 ∧ f (b + 7) = x.2.2.2.2.2.2
def shR (K : List Sh) (f : Nat → Int32) (sk : Int32) : Prop := sk = nI K.length ∧ K.length ≤ 12 ∧ (∀ k : Nat, k < K.length → (sk0 K k).2.1 ≤ 30000) ∧ ∀ k : Nat, k < K.length → shF f (8 * k) (sk0 K k)
/-- how far from the target -/
def aw (t g : Nat) : Nat := if g ≤ t then t - g else g - t
theorem p_absI {a b : Nat} (ha : a < 2 ^ 30) (hb : b < 2 ^ 30) : (if 0 ≤ nI a - nI b then nI a - nI b else 0 - (nI a - nI b)) = nI (aw a b) := by
  unfold aw
  by_cases h : b ≤ a
  · rw [pk_sub h, if_pos (nI_pos' (by omega)), if_pos h]
  · have hn := pk_sneg (a := a) (b := b) hb (by omega)
    rw [if_neg (fun q => ?_), if_neg h]
    · have e : (0 : Int32) - (nI a - nI b) = nI b - nI a := by rw [Int32.zero_sub, Int32.neg_sub]
      rw [e, pk_sub (by omega)]
    · rw [Int32.lt_iff_toInt_lt] at hn
      rw [Int32.le_iff_toInt_le] at q
      omega
theorem p_away {K : List Sh} {f : Nat → Int32} {sk : Int32} {g k : Nat} (h : shR K f sk) (hg : g ≤ 600) (hk : k < K.length) : f_X6_awayFrom (nI g) (nI k) f = some (nI (aw (sk0 K k).2.1 g)) := by
  obtain ⟨rfl, h12, ht, hf⟩ := h
  have h1 := (hf k hk).2.1
  have h2 := ht k hk
  have e : nI k * 8 + 1 = nI (8 * k + 1) := by
    rw [fa_lit 8, fa_lit 1, pk_mul, nI_add, Nat.mul_comm]
  have hgi := nI_in (c := 8 * k + 1) (N := 96) (by omega) (by omega)
  rw [f_X6_awayFrom, e, gd_t hgi, nI_clamp (by omega), h1, p_absI (by omega) (by omega)]
  rfl
/-- how many of the first n are ahead of the one at i -/
def ahead (K : List Sh) (g i : Nat) : Nat → Nat
  | 0 => 0
  | n + 1 => ahead K g i n + (if aw (sk0 K n).2.1 g < aw (sk0 K i).2.1 g ∨ (aw (sk0 K n).2.1 g = aw (sk0 K i).2.1 g ∧ n < i) then 1 else 0)
theorem ahead_le (K : List Sh) (g i : Nat) : ∀ n, ahead K g i n ≤ n
  | 0 => Nat.le_refl 0
  | n + 1 => by
    have := ahead_le K g i n
    unfold ahead
    split <;> omega
theorem p_place_L {K : List Sh} {f : Nat → Int32} {sk : Int32} {g i : Nat} (h : shR K f sk) (hg : g ≤ 600) (hi : i < K.length) : ∀ (m n fuel : Nat), n + m = K.length → m < fuel → f_X6_placeOf_L13 f sk (nI i) (nI g) (nI (aw (sk0 K i).2.1 g)) fuel (nI (ahead K g i n)) (nI n) = some (nI (ahead K g i K.length)) := by
  have h12 := h.2.1
  have hsk := h.1
  have hai : aw (sk0 K i).2.1 g < 2 ^ 30 := by
    have := h.2.2.1 i hi
    unfold aw; split <;> omega
  intro m
  induction m with
  | zero =>
    intro n fuel hn hf
    obtain ⟨fu, rfl⟩ : ∃ fu, fuel = fu + 1 := ⟨fuel - 1, by omega⟩
    rw [f_X6_placeOf_L13, if_pos (by rw [hsk]; exact nI_le (by omega) (by omega)), show n = K.length by omega]
  | succ m ih =>
    intro n fuel hn hf
    obtain ⟨fu, rfl⟩ : ∃ fu, fuel = fu + 1 := ⟨fuel - 1, by omega⟩
    have hal := ahead_le K g i n
    have han : aw (sk0 K n).2.1 g < 2 ^ 30 := by
      have := h.2.2.1 n (by omega)
      unfold aw; split <;> omega
    have ih' := ih (n + 1) fu (by omega) (by omega)
    rw [f_X6_placeOf_L13, if_neg (by rw [hsk]; exact nI_ge (by omega) (by omega)), p_away h hg (by omega)]
    simp only [Option.bind_some, f_X6_placeOf_J49, f_X6_placeOf_J52, lt_v, fa_L, nI_add]
    rw [show ahead K g i (n + 1) = ahead K g i n + (if aw (sk0 K n).2.1 g < aw (sk0 K i).2.1 g ∨ (aw (sk0 K n).2.1 g = aw (sk0 K i).2.1 g ∧ n < i) then 1 else 0) from rfl] at ih'
    by_cases q1 : aw (sk0 K n).2.1 g < aw (sk0 K i).2.1 g
    · rw [if_pos (nI_lt q1 (by omega))]
      rw [if_pos (Or.inl q1)] at ih'
      exact ih'
    · rw [if_neg (nI_nlt (by omega) (by omega))]
      by_cases q2 : aw (sk0 K n).2.1 g = aw (sk0 K i).2.1 g
      · rw [if_pos (congrArg nI q2)]
        by_cases q3 : n < i
        · rw [if_neg (nI_ge q3 (by omega))]
          rw [if_pos (Or.inr ⟨q2, q3⟩)] at ih'
          exact ih'
        · rw [if_pos (nI_le (by omega) (by omega))]
          rw [if_neg (by omega), Nat.add_zero] at ih'
          exact ih'
      · rw [if_neg (fun z => q2 ((nI_eq (by omega) (by omega)).mp z))]
        rw [if_neg (by omega), Nat.add_zero] at ih'
        exact ih'
theorem p_place {K : List Sh} {f : Nat → Int32} {sk : Int32} {g i : Nat} (h : shR K f sk) (hg : g ≤ 600) (hi : i < K.length) : f_X6_placeOf (nI i) (nI g) f sk = some (nI (ahead K g i K.length)) := by
  have h12 := h.2.1
  have := p_place_L h hg hi K.length 0 FU (by omega) (by show _ < 20000; omega)
  rw [f_X6_placeOf, p_away h hg hi]
  simp only [Option.bind_some]
  rw [← nI_0]
  exact this
/-- the number of the first one from i on that stands at this place -/
def bestAt (K : List Sh) (g : Nat) (x : Int32) : Nat → Nat → Int32
  | 0, _ => -1000004
  | m + 1, i => if nI (ahead K g i K.length) = x then (sk0 K i).1 else bestAt K g x m (i + 1)
theorem p_number_L {K : List Sh} {f : Nat → Int32} {sk x : Int32} {g : Nat} (h : shR K f sk) (hg : g ≤ 600) : ∀ (m i fuel : Nat), i + m = K.length → m < fuel → f_X6_numberAtPlace_L2 f sk x (nI g) fuel (nI i) = some (bestAt K g x m i) := by
  have h12 := h.2.1
  have hsk := h.1
  intro m
  induction m with
  | zero =>
    intro i fuel hi hf
    obtain ⟨fu, rfl⟩ : ∃ fu, fuel = fu + 1 := ⟨fuel - 1, by omega⟩
    rw [f_X6_numberAtPlace_L2, if_pos (by rw [hsk]; exact nI_le (by omega) (by omega))]
    rfl
  | succ m ih =>
    intro i fuel hi hf
    obtain ⟨fu, rfl⟩ : ∃ fu, fuel = fu + 1 := ⟨fuel - 1, by omega⟩
    have ih' := ih (i + 1) fu (by omega) (by omega)
    have e : nI i * 8 + 0 = nI (8 * i) := by
      rw [fa_lit 8, fa_lit 0, pk_mul, nI_add, Nat.mul_comm, Nat.add_zero]
    have hgi := nI_in (c := 8 * i) (N := 96) (by omega) (by omega)
    rw [f_X6_numberAtPlace_L2, if_neg (by rw [hsk]; exact nI_ge (by omega) (by omega)), p_place h hg (by omega)]
    simp only [Option.bind_some]
    rw [e, gd_t hgi, nI_clamp (by omega), (h.2.2.2 i (by omega)).1, bestAt]
    by_cases q : nI (ahead K g i K.length) = x
    · rw [if_pos q, if_pos q]
    · rw [if_neg q, if_neg q, lt_v, fa_L, nI_add]
      exact ih'
theorem p_number {K : List Sh} {f : Nat → Int32} {sk : Int32} {g : Nat} (x : Int32) (h : shR K f sk) (hg : g ≤ 600) : f_X6_numberAtPlace x (nI g) f sk = some (bestAt K g x K.length 0) := by
  have h12 := h.2.1
  have := p_number_L (x := x) h hg K.length 0 FU (by omega) (by show _ < 20000; omega)
  rw [f_X6_numberAtPlace, ← nI_0]
  exact this
/-- what is told of a shot: by its place in the answers of shotOf -/
def shOf (x : Sh) (g w : Nat) : Int32 := match w with
  | 0 => x.1
  | 1 => nI x.2.1
  | 2 => x.2.2.1
  | 3 => x.2.2.2.1
  | 4 => x.2.2.2.2.1
  | 5 => nI (aw x.2.1 g)
  | 6 => x.2.2.2.2.2.1
  | _ => x.2.2.2.2.2.2
theorem p_tellShot {K : List Sh} {f : Nat → Int32} {sk : Int32} {g i w : Nat} (h : shR K f sk) (hg : g ≤ 600) (hi : i < 2 ^ 31) (hw : w < 8) : f_X6_tell (nI i) (nI w) (nI g) f sk = some (if i < K.length then shOf (sk0 K i) g w else -1000004) := by
  have h12 := h.2.1
  have hsk := h.1
  rw [f_X6_tell, if_neg (nI_pos hi)]
  by_cases q : i < K.length
  · have hf := h.2.2.2 i q
    have e : nI i * 8 + nI w = nI (8 * i + w) := by
      rw [fa_lit 8, pk_mul, nI_add, Nat.mul_comm]
    have hgi := nI_in (c := 8 * i + w) (N := 96) (by omega) (by omega)
    rw [if_neg (by rw [hsk]; exact nI_ge q (by omega)), if_neg (nI_pos (by omega)), fa_lit 8, if_pos (nI_lt hw (by decide)), if_pos q, fa_lit 5]
    rw [← fa_lit 8, e, gd_t hgi, nI_clamp (by omega), p_away h hg q]
    obtain ⟨f0, f1, f2, f3, f4, f6, f7⟩ := hf
    have hw' : w = 0 ∨ w = 1 ∨ w = 2 ∨ w = 3 ∨ w = 4 ∨ w = 5 ∨ w = 6 ∨ w = 7 := by omega
    rcases hw' with rfl | rfl | rfl | rfl | rfl | rfl | rfl | rfl
    · rw [if_neg (by decide)]; exact congrArg some f0
    · rw [if_neg (by decide)]; exact congrArg some f1
    · rw [if_neg (by decide)]; exact congrArg some f2
    · rw [if_neg (by decide)]; exact congrArg some f3
    · rw [if_neg (by decide)]; exact congrArg some f4
    · rw [if_pos rfl]; rfl
    · rw [if_neg (by decide)]; exact congrArg some f6
    · rw [if_neg (by decide)]; exact congrArg some f7
  · rw [if_pos (by rw [hsk]; exact nI_le (by omega) hi), if_neg q]
theorem p_addShot {K : List Sh} {f : Nat → Int32} {sk : Int32} {t : Nat} (h : shR K f sk) (ht : t ≤ 30000) (x2 x3 x4 x5 x6 sm : Int32) : ∃ R, f_X6_add (nI t) x2 x3 x4 x5 x6 f sk sm = some R ∧ shR (((sm, t, x2, x3, x4, x5, x6) :: K).take 12) R.1 R.2.1 ∧ R.2.2 = sm + 1 := by
  obtain ⟨rfl, h12, htt, hf⟩ := h
  have hg : ¬ (0 : Int32) < 0 ∧ ¬ (8 : Int32) < 0 ∧ ¬ ((96 : Int32) - 8) < 0 ∧ (0 : Int32).toNatClampNeg + ((96 : Int32) - 8).toNatClampNeg ≤ 96 ∧ (8 : Int32).toNatClampNeg + ((96 : Int32) - 8).toNatClampNeg ≤ 96 := by decide
  have hlen : (((sm, t, x2, x3, x4, x5, x6) :: K).take 12).length = min 12 (K.length + 1) := by rw [List.length_take]; rfl
  refine ⟨(upd (upd (upd (upd (upd (upd (upd (va_cpy f f 0 8 88) 0 sm) 1 (nI t)) 2 x2) 3 x3) 4 x4) 6 x5) 7 x6, nI (min 12 (K.length + 1)), sm + 1), ?_, ⟨?_, ?_, ?_, ?_⟩, rfl⟩
  · rw [f_X6_add, gd_t hg]
    have e : (if nI K.length + (1 : Int32) < 12 then nI K.length + (1 : Int32) else 12) = nI (min 12 (K.length + 1)) := by
      rw [fa_lit 1, fa_lit 12, nI_add]
      by_cases q : K.length + 1 < 12
      · rw [if_pos (nI_lt q (by decide))]; exact nI_inj (by omega)
      · rw [if_neg (nI_nlt (by omega) (by omega))]; exact nI_inj (by omega)
    rw [e]
    rfl
  · rw [hlen]
  · rw [hlen]; omega
  · intro k hk
    rw [hlen] at hk
    rw [sk0_t _ (by omega)]
    cases k with
    | zero => exact ht
    | succ k => rw [sk0_s]; exact htt k (by omega)
  · intro k hk
    rw [hlen] at hk
    rw [sk0_t _ (by omega)]
    cases k with
    | zero => exact ⟨rfl, rfl, rfl, rfl, rfl, rfl, rfl⟩
    | succ k =>
      rw [sk0_s]
      have hk2 : k < K.length := by omega
      have e : ∀ j, j < 8 → upd (upd (upd (upd (upd (upd (upd (va_cpy f f 0 8 88) 0 sm) 1 (nI t)) 2 x2) 3 x3) 4 x4) 6 x5) 7 x6 (8 * (k + 1) + j) = f (8 * k + j) := fun j hj => by
        rw [pk_un (by omega), pk_un (by omega), pk_un (by omega), pk_un (by omega), pk_un (by omega), pk_un (by omega), pk_un (by omega), pk_cpy_in (by omega) (by omega)]
        congr 1
        omega
      obtain ⟨f0, f1, f2, f3, f4, f6, f7⟩ := hf k hk2
      exact ⟨(e 0 (by decide)).trans f0, (e 1 (by decide)).trans f1, (e 2 (by decide)).trans f2, (e 3 (by decide)).trans f3, (e 4 (by decide)).trans f4, (e 6 (by decide)).trans f6, (e 7 (by decide)).trans f7⟩
theorem p_copyShots {K : List Sh} {f f2 : Nat → Int32} {sk2 : Int32} (h : shR K f2 sk2) (sk sm sm2 : Int32) : ∃ R, f_X6_copyFrom f sk sm f2 sk2 sm2 = some R ∧ shR K R.1 R.2.1 ∧ R.2.2 = sm2 := by
  have hg : ¬ (0 : Int32) < 0 ∧ ¬ (0 : Int32) < 0 ∧ ¬ (96 : Int32) < 0 ∧ (0 : Int32).toNatClampNeg + (96 : Int32).toNatClampNeg ≤ 96 ∧ (0 : Int32).toNatClampNeg + (96 : Int32).toNatClampNeg ≤ 96 := by decide
  refine ⟨(va_cpy f2 f 0 0 96, sk2, sm2), ?_, ⟨h.1, h.2.1, h.2.2.1, ?_⟩, rfl⟩
  · rw [f_X6_copyFrom, gd_t hg]
    rfl
  · intro k hk
    have h12 := h.2.1
    have e : ∀ j, j < 8 → va_cpy f2 f 0 0 96 (8 * k + j) = f2 (8 * k + j) := fun j hj => by
      rw [pk_cpy_in (by omega) (by omega)]
      congr 1
      omega
    obtain ⟨f0, f1, f2, f3, f4, f6, f7⟩ := h.2.2.2 k hk
    exact ⟨(e 0 (by decide)).trans f0, (e 1 (by decide)).trans f1, (e 2 (by decide)).trans f2, (e 3 (by decide)).trans f3, (e 4 (by decide)).trans f4, (e 6 (by decide)).trans f6, (e 7 (by decide)).trans f7⟩
end
section
/-! the state of a grinder, and its methods -/
abbrev Bu : Type := Nat × Nat × Int32 × Int32
abbrev Sp : Type := List (Nat × Nat) × List (Nat × Nat) × List (Nat × Nat) × Bu × Bu × List Sh × Int32 × (Nat → Nat) × Nat × Int32 × Int32 × Int32 × Int32 × Int32
abbrev v_lo (σ : Sp) : List (Nat × Nat) := σ.1
abbrev v_ch (σ : Sp) : List (Nat × Nat) := σ.2.1
abbrev v_ba (σ : Sp) : List (Nat × Nat) := σ.2.2.1
abbrev v_b0 (σ : Sp) : Bu := σ.2.2.2.1
abbrev v_b1 (σ : Sp) : Bu := σ.2.2.2.2.1
abbrev v_K (σ : Sp) : List Sh := σ.2.2.2.2.2.1
abbrev v_mk (σ : Sp) : Int32 := σ.2.2.2.2.2.2.1
abbrev v_st (σ : Sp) : Nat → Nat := σ.2.2.2.2.2.2.2.1
abbrev v_se (σ : Sp) : Nat := σ.2.2.2.2.2.2.2.2.1
abbrev v_fi (σ : Sp) : Int32 := σ.2.2.2.2.2.2.2.2.2.1
abbrev v_gr (σ : Sp) : Int32 := σ.2.2.2.2.2.2.2.2.2.2.1
abbrev v_br (σ : Sp) : Int32 := σ.2.2.2.2.2.2.2.2.2.2.2.1
abbrev v_pu (σ : Sp) : Int32 := σ.2.2.2.2.2.2.2.2.2.2.2.2.1
abbrev v_nr (σ : Sp) : Int32 := σ.2.2.2.2.2.2.2.2.2.2.2.2.2
def buR (b : Bu) (d w g k : Int32) : Prop := d = nI b.1 ∧ w = nI b.2.1 ∧ g = b.2.2.1 ∧ k = b.2.2.2
def stR (v : Nat → Nat) (st : Nat → Int32) : Prop := ∀ k : Nat, k < 6 → st k = nI (v k)
def buK (b : Bu) : Prop := 1 ≤ b.1 ∧ b.1 ≤ 60 ∧ b.2.1 ≤ 300
def mkK (L : List (Nat × Nat)) : Prop := ∀ p ∈ L, 40 ≤ p.2 ∧ p.2 < 2404
def stK (v : Nat → Nat) : Prop := 100 ≤ v 0 ∧ v 0 ≤ 600 ∧ v 1 ≤ 200 ∧ v 2 ≤ 100 ∧ 30 ≤ v 3 ∧ v 3 ≤ 300 ∧ 30 ≤ v 4 ∧ v 4 ≤ 300 ∧ v 5 ≤ 1
def hdn (v : Nat → Nat) (k : Nat) : Nat := if k = 0 then v 3 else v 4
def flm (v : Nat → Nat) (m : Nat) : Nat := fw (hdn v (m % 2)) (m / 4)
def sumF (v : Nat → Nat) : List (Nat × Nat) → Nat
  | [] => 0
  | p :: L => p.1 * flm v p.2 + sumF v L
def timeS (v : Nat → Nat) (L : List (Nat × Nat)) : Nat := sumF v L / tot L
theorem fw_le {h g : Nat} (hh : h ≤ 300) : fw h g ≤ 30000 := by
  unfold fw
  split
  · omega
  · have h1 : h * 1000 / g ≤ h * 1000 / 10 := Nat.div_le_div_left (by omega) (by decide)
    omega
theorem hdn_le {v : Nat → Nat} (hv : stK v) (k : Nat) : hdn v k ≤ 300 := by
  obtain ⟨-, -, -, -, -, h3, -, h4, -⟩ := hv
  unfold hdn
  split <;> omega
theorem flm_le {v : Nat → Nat} (hv : stK v) (m : Nat) : flm v m ≤ 30000 := fw_le (hdn_le hv _)
theorem sumF_le {v : Nat → Nat} (hv : stK v) : ∀ L, sumF v L ≤ tot L * 30000
  | [] => by simp [sumF, tot]
  | p :: L => by
    have h1 := sumF_le hv L
    have h2 : p.1 * flm v p.2 ≤ p.1 * 30000 := Nat.mul_le_mul (Nat.le_refl _) (flm_le hv _)
    simp only [sumF, tot]
    rw [Nat.add_mul]
    omega
theorem timeS_le {v : Nat → Nat} (hv : stK v) (L : List (Nat × Nat)) : timeS v L ≤ 30000 := by
  unfold timeS
  rcases Nat.eq_zero_or_pos (tot L) with h | h
  · rw [h, Nat.div_zero]; omega
  · have h1 := sumF_le hv L
    have : sumF v L / tot L ≤ tot L * 30000 / tot L := Nat.div_le_div_right h1
    rw [Nat.mul_div_cancel_left _ h] at this
    exact this
theorem p_hard {v : Nat → Nat} {st : Nat → Int32} (hs : stR v st) {k : Nat} (hk : k < 2 ^ 31) : f_X1_hardnessOf (nI k) st = some (nI (hdn v k)) := by
  rw [f_X1_hardnessOf]
  unfold hdn
  by_cases h : k = 0
  · subst h
    rw [if_pos nI_0, if_pos rfl]
    exact congrArg some (hs 3 (by decide))
  · rw [if_neg (nI_ne0 (by omega) hk), if_neg h]
    exact congrArg some (hs 4 (by decide))
theorem p_flowOfMark {v : Nat → Nat} {st : Nat → Int32} (hs : stR v st) (hv : stK v) {m : Nat} (hm : m < 2 ^ 30) : f_X1_flowOfMark (nI m) st = some (nI (flm v m)) := by
  have h1 : m % 2 < 2 ^ 31 := Nat.lt_of_lt_of_le (Nat.mod_lt m (by decide)) (by decide)
  have h2 : m < 2 ^ 31 := Nat.lt_of_lt_of_le hm (by decide)
  have h3 : m / 4 < 2 ^ 30 := Nat.lt_of_le_of_lt (Nat.div_le_self m 4) hm
  have e1 := p_hard hs h1
  have e2 := p_gapOf h2
  have e3 := p_flow (hdn_le hv (m % 2)) h3
  rw [f_X1_flowOfMark, p_kindOf, Option.bind_some, e1, Option.bind_some, e2, Option.bind_some, e3, Option.bind_some, flm]
theorem p_time_L {v : Nat → Nat} {st : Nat → Int32} (hs : stR v st) (hv : stK v) {L : List (Nat × Nat)} {A M : Nat → Int32} {n t : Int32} (hr : rowR L A M n t) (hok : okR L) (hT : tot L ≤ 400) (h0 : 0 < tot L) : ∀ (m i s fuel : Nat) (Lr : List (Nat × Nat)), Lr.length = m → i + m = L.length → (∀ k : Nat, k < m → lk Lr k = lk L (i + k)) → m < fuel → s + sumF v Lr ≤ 400 * 30000 →
    f_X1_timeOfBasket_L18 A M n t st fuel (nI s) (nI i) = some (nI ((s + sumF v Lr) / tot L)) := by
  have hlen := len_tot hok
  intro m
  induction m with
  | zero =>
    intro i s fuel Lr hL hi hk hf hb
    obtain ⟨fu, rfl⟩ : ∃ fu, fuel = fu + 1 := ⟨fuel - 1, by omega⟩
    have hL0 : Lr = [] := List.length_eq_zero_iff.mp hL
    subst hL0
    rw [f_X1_timeOfBasket_L18, hr.1, hr.2.1, if_pos (nI_le (by omega) (by omega)), gd_t (nI_ne0 h0 (by omega))]
    simp only [sumF] at hb ⊢
    rw [pk_div (by omega) h0 (by omega), Nat.add_zero]
  | succ m ih =>
    intro i s fuel Lr hL hi hk hf hb
    obtain ⟨fu, rfl⟩ : ∃ fu, fuel = fu + 1 := ⟨fuel - 1, by omega⟩
    match Lr, hL with
    | p :: Lr, hL =>
      simp only [List.length_cons] at hL
      have h1 := hk 0 (by omega)
      rw [lk_0, Nat.add_zero] at h1
      have hp := hok (lk L i) (lk_m (by omega))
      have ih' := ih (i + 1) (s + p.1 * flm v p.2) fu Lr (by omega) (by omega) (fun k h => by
        have := hk (k + 1) (by omega)
        rw [lk_s] at this
        rw [this, show i + (k + 1) = i + 1 + k by omega]) (by omega) (by simp only [sumF] at hb; omega)
      rw [f_X1_timeOfBasket_L18, if_neg (by rw [hr.1]; exact nI_ge (by omega) (by omega)), p_amountAt hr (by omega) (by decide) (by omega)]
      simp only [Option.bind_some]
      rw [p_markAt hr (by omega) (by decide) (by omega)]
      simp only [Option.bind_some]
      rw [p_flowOfMark hs hv (by omega)]
      simp only [Option.bind_some, lt_v]
      rw [← h1, pk_mul, nI_add, fa_L, nI_add, ih']
      simp only [sumF, Nat.add_assoc]
theorem p_time {v : Nat → Nat} {st : Nat → Int32} (hs : stR v st) (hv : stK v) {L : List (Nat × Nat)} {A M : Nat → Int32} {n t : Int32} (hr : rowR L A M n t) (hok : okR L) (hT : tot L ≤ 400) : f_X1_timeOfBasket A M n t st = some (if tot L = 0 then -1000002 else nI (timeS v L)) := by
  have hlen := len_tot hok
  rw [f_X1_timeOfBasket]
  by_cases h : tot L = 0
  · rw [if_neg (by rw [hr.2.1, h]; exact nI_ge (a := 0) (b := 1) (by decide) (by decide)), if_pos h]
  · rw [if_pos (by rw [hr.2.1, fa_L]; exact nI_le (by omega) (by omega)), if_neg h, ← nI_0]
    have := p_time_L hs hv hr hok hT (by omega) L.length 0 0 FU L rfl (by omega) (fun k _ => by rw [Nat.zero_add]) (by show _ < 20000; omega) (by
      have := sumF_le hv L
      omega)
    rw [Nat.zero_add] at this
    exact this
/-- times of cooling while n seconds pass -/
def tmz (se n : Nat) : Nat := (se + n) / 10 - se / 10
theorem p_pass {se n w0 w1 : Nat} (hse : se < 2 ^ 29) (hn : n < 2 ^ 29) (h0 : w0 ≤ 300) (h1 : w1 ≤ 300) : f_X1_passSeconds (nI n) (nI w0) (nI w1) (nI se) = some (nI (cl (tmz se n) w0), nI (cl (tmz se n) w1), nI (se + n)) := by
  have e : se / 10 ≤ (se + n) / 10 := Nat.div_le_div_right (by omega)
  rw [f_X1_passSeconds]
  rw [nI_add, fa_L, pk_div (by omega) (by decide) (by decide), pk_div (by omega) (by decide) (by decide), pk_sub e, lt_v]
  have ht : (se + n) / 10 - se / 10 < 2 ^ 30 := by omega
  rw [p_cool ht h0]
  simp only [Option.bind_some]
  rw [p_cool ht h1]
  rfl
theorem cl_le : ∀ (n w : Nat), cl n w ≤ w
  | 0, w => Nat.le_refl w
  | n + 1, w => Nat.le_trans (cl_le n (w - fl w)) (Nat.sub_le _ _)
end
section
/-! arguments -/
theorem ngA {P : Prop} (h : 0 ≤ (-1000001 : Int32)) : P := absurd h (by decide)
theorem ngB {P : Prop} (h : 0 ≤ (-1000002 : Int32)) : P := absurd h (by decide)
theorem ngC {P : Prop} (h : 0 ≤ (-1000003 : Int32)) : P := absurd h (by decide)
theorem ngD {P : Prop} (h : 0 ≤ (-1000004 : Int32)) : P := absurd h (by decide)
theorem v01 {x : Int32} (h : x = 0 ∨ x = 1) : ∃ k : Nat, k < 2 ∧ x = nI k := by
  rcases h with rfl | rfl
  · exact ⟨0, by decide, rfl⟩
  · exact ⟨1, by decide, rfl⟩
theorem v_rng {x : Int32} {hi : Nat} (hh : hi < 2 ^ 31) (h1 : ¬ x < 1) (h2 : ¬ nI hi < x) : ∃ a : Nat, 1 ≤ a ∧ a ≤ hi ∧ x = nI a := by
  have e1 : ¬ x < 0 := fun q => h1 (by
    rw [Int32.lt_iff_toInt_lt] at q ⊢
    rw [Int32.toInt_zero] at q
    rw [fa_L, nI_toInt (by decide)]
    omega)
  obtain ⟨j, hj, rfl⟩ := nI_of e1
  refine ⟨j, ?_, ?_, rfl⟩
  · rcases Nat.lt_or_ge j 1 with q | q
    · exact absurd (nI_lt q (by decide)) h1
    · exact q
  · rcases Nat.lt_or_ge hi j with q | q
    · exact absurd (nI_lt q hj) h2
    · exact q
theorem v_cl {k : Nat} (h : k < 2 ^ 31) : (nI k).toNatClampNeg = k := nI_clamp h
theorem is01_t {k : Nat} (h : k < 2) : f_X7_isZeroOrOne (nI k) = some 1 := by
  rw [p_is01]
  rcases (show k = 0 ∨ k = 1 by omega) with rfl | rfl <;> rfl
theorem is01_f {x : Int32} (h : ¬ (x = 0 ∨ x = 1)) : f_X7_isZeroOrOne x = some 0 := by
  rw [p_is01, if_neg h]
/-! what a grinder's calls answer, and what it is then -/
abbrev cIA : Int32 := -1000001
abbrev cNP : Int32 := -1000002
abbrev cLR : Int32 := -1000003
abbrev cNF : Int32 := -1000004
abbrev bad2 (x1 x2 : Int32) (hi : Nat) : Prop := ¬ (x1 = 0 ∨ x1 = 1) ∨ x2 < 1 ∨ nI hi < x2
def full (k a : Nat) (L : List (Nat × Nat)) : Prop := 4000 < tot L + a ∨ (¬ L.length < 6 ∧ ends k L = false)
noncomputable def a_fill (x1 x2 : Int32) (L : List (Nat × Nat)) : Int32 := by
  classical
  exact if bad2 x1 x2 999 then cIA else if full x1.toNatClampNeg x2.toNatClampNeg L then cLR else nI (tot L + x2.toNatClampNeg)
theorem p_fillIn {L : List (Nat × Nat)} {A M : Nat → Int32} {n t : Int32} (hr : rowR L A M n t) (hok : okR L) (hT : tot L ≤ 4000) (hn : L.length ≤ 6) (x1 x2 fi : Int32) : ∃ R, f_X1_fillIn x1 x2 A M n t fi = some R ∧ R.1 = a_fill x1 x2 L ∧ (0 ≤ R.1 → rowR (pour x1.toNatClampNeg x2.toNatClampNeg L) R.2.1 R.2.2.1 R.2.2.2.1 R.2.2.2.2.1 ∧ R.2.2.2.2.2 = fi + x2) := by
  unfold a_fill
  rw [f_X1_fillIn]
  by_cases h1 : x1 = 0 ∨ x1 = 1
  · obtain ⟨k, hk, rfl⟩ := v01 h1
    rw [is01_t hk]
    simp only [Option.bind_some]
    rw [if_neg (by decide)]
    by_cases h2 : x2 < 1
    · rw [if_pos h2, if_pos (Or.inr (Or.inl h2))]
      exact ⟨_, rfl, rfl, (by first | exact ngA | exact ngB | exact ngC | exact ngD)⟩
    · rw [if_neg h2]
      by_cases h3 : (999 : Int32) < x2
      · rw [if_neg (Int32.not_le.mpr h3), if_pos (show bad2 _ _ 999 from Or.inr (Or.inr h3))]
        exact ⟨_, rfl, rfl, (by first | exact ngA | exact ngB | exact ngC | exact ngD)⟩
      · obtain ⟨a, ha1, ha2, rfl⟩ := v_rng (hi := 999) (by decide) h2 h3
        rw [if_pos (Int32.not_lt.mp h3), if_neg (show ¬ bad2 _ _ 999 from fun q => by rcases q with q | q | q; exact q h1; exact h2 q; exact h3 q), v_cl (by omega), v_cl (by omega)]
        rw [f_X3_hasRoomFor, hr.2.1, nI_add, fa_lit 4000]
        by_cases h4 : 4000 < tot L + a
        · rw [if_pos (nI_lt h4 (by omega)), if_pos (show full k a L from Or.inl h4)]
          simp only [Option.bind_some]
          exact ⟨_, rfl, rfl, (by first | exact ngA | exact ngB | exact ngC | exact ngD)⟩
        · have hp : ∀ (h5 : ends k L = false → L.length < 6), ∃ R, f_X3_pourIn 6 (nI k) (nI a) A M n (nI (tot L)) = some R ∧ rowR (pour k a L) R.1 R.2.1 R.2.2.1 R.2.2.2 := fun h5 => by
            have := p_pour (N := 6) (k := k) (a := a) hr hn h5 (by decide) hok hk
            rw [hr.2.1] at this
            exact this
          rw [if_neg (nI_nlt (by omega) (by decide)), hr.1, fa_lit 6, p_ends (N := 6) (n := nI L.length) (hr.1 ▸ hr) hn (by decide) hok hk]
          by_cases h5 : L.length < 6
          · obtain ⟨R, e, hR⟩ := hp (fun _ => h5)
            rw [if_pos (nI_lt h5 (by decide)), if_neg (show ¬ full k a L from fun q => by rcases q with q | q <;> omega)]
            simp only [Option.bind_some, f_X3_hasRoomFor_J35]
            rw [if_neg (by decide), ← hr.1, e]
            simp only [Option.bind_some, lt_v, f_X3_amount]
            refine ⟨_, rfl, ?_, fun _ => ⟨hR, rfl⟩⟩
            show R.2.2.2 = _
            rw [hR.2.1, pour_tot]
          · rw [if_neg (nI_nlt (by omega) (by omega))]
            simp only [Option.bind_some]
            cases q : ends k L with
            | false =>
              rw [if_pos (show full k a L from Or.inr ⟨h5, q⟩), if_pos (show (if false = true then (1 : Int32) else 0) = 0 from rfl)]
              simp only [Option.bind_some]
              exact ⟨_, rfl, rfl, (by first | exact ngA | exact ngB | exact ngC | exact ngD)⟩
            | true =>
              obtain ⟨R, e, hR⟩ := hp (fun z => by rw [q] at z; cases z)
              rw [if_neg (show ¬ full k a L from fun z => by rcases z with z | z; (exact absurd z (by omega)); (rw [q] at z; exact absurd z.2 (by decide))), if_neg (show ¬ (if true = true then (1 : Int32) else 0) = 0 by decide)]
              simp only [Option.bind_some, f_X3_hasRoomFor_J35]
              rw [if_neg (by decide), ← hr.1, e]
              simp only [Option.bind_some, lt_v, f_X3_amount]
              refine ⟨_, rfl, ?_, fun _ => ⟨hR, rfl⟩⟩
              show R.2.2.2 = _
              rw [hR.2.1, pour_tot]
  · rw [is01_f h1]
    simp only [Option.bind_some]
    rw [if_pos trivial, if_pos (Or.inl h1)]
    exact ⟨_, rfl, rfl, (by first | exact ngA | exact ngB | exact ngC | exact ngD)⟩
theorem no_neg {c : Int32} {P : Prop} (h : c < 0) : 0 ≤ c → P := fun q => absurd q (by
  rw [Int32.le_iff_toInt_le]
  rw [Int32.lt_iff_toInt_lt] at h
  omega)
theorem p_maxz {a b : Nat} (ha : a < 2 ^ 30) (hb : b < 2 ^ 30) : (if (0 : Int32) < nI a - nI b then nI a - nI b else 0) = nI (a - b) := by
  by_cases h : b ≤ a
  · rw [pk_sub h]
    by_cases h2 : 0 < a - b
    · rw [if_pos (by rw [fa_L]; exact nI_lt h2 (by omega))]
    · rw [if_neg (by rw [fa_L]; exact nI_nlt (by omega) (by omega)), show a - b = 0 by omega, nI_0]
  · have hn := pk_sneg (a := a) (b := b) hb (by omega)
    rw [if_neg (fun q => ?_), show a - b = 0 by omega, nI_0]
    rw [Int32.lt_iff_toInt_lt] at hn q
    omega
/-- a burr behind a grinding -/
def buG (b : Bu) (a : Nat) : Bu := (b.1, min 300 (b.2.1 + a / 4), b.2.2.1 + nI a, b.2.2.2)
def buC (b : Bu) (n : Nat) : Bu := (b.1, cl n b.2.1, b.2.2.1, b.2.2.2)
/-- which portions come, what the chute has then, what comes out -/
def g_in (lo ch : List (Nat × Nat)) (d w b a : Nat) : List (Nat × Nat) := ch ++ mk2 (fun m => 4 * gp d w + 2 * b + m) (tk a lo).1
def g_out (ch : List (Nat × Nat)) (a c : Nat) : Nat := tot ch + a - c
theorem g_in_tot {lo ch : List (Nat × Nat)} {d w b a : Nat} (h : a ≤ tot lo) : tot (g_in lo ch d w b a) = tot ch + a := by
  unfold g_in
  rw [tot_app, mk2_tot, (tk_tot lo a).1]
  omega
theorem mk2_ok {L : List (Nat × Nat)} {g : Nat → Nat} (h : okR L) (hg : ∀ p ∈ L, g p.2 < 4096) : okR (mk2 g L) := fun q hq => by
  unfold mk2 at hq
  obtain ⟨p, hp, rfl⟩ := List.mem_map.mp hq
  have h1 := h p hp
  exact ⟨h1.1, h1.2.1, hg p hp⟩
theorem tk_mem {P : Nat → Prop} : ∀ {L : List (Nat × Nat)} (l : Nat), (∀ p ∈ L, P p.2) → (∀ p ∈ (tk l L).1, P p.2) ∧ ∀ p ∈ (tk l L).2, P p.2
  | [], l, h => ⟨h, h⟩
  | p :: L, l, h => by
    have h1 := h p List.mem_cons_self
    have h2 : ∀ q ∈ L, P q.2 := fun q hq => h q (List.mem_cons_of_mem _ hq)
    rw [tk]
    split
    · exact ⟨fun q hq => (by cases hq), h⟩
    · split
      · exact ⟨fun q hq => (by rcases List.mem_cons.mp hq with rfl | hq; exact h1; cases hq), fun q hq => (by rcases List.mem_cons.mp hq with rfl | hq; exact h1; exact h2 q hq)⟩
      · have h3 := tk_mem (l - p.1) h2
        exact ⟨fun q hq => (by rcases List.mem_cons.mp hq with rfl | hq; exact h1; exact h3.1 q hq), h3.2⟩
theorem gp_le {d w : Nat} (hd : d ≤ 60) : gp d w ≤ 600 := by unfold gp; omega
theorem gp_ge (d w : Nat) : 10 ≤ gp d w := by unfold gp; omega
theorem g_in_ok {lo ch : List (Nat × Nat)} {d w b a : Nat} (hlo : okR lo) (hk : ∀ p ∈ lo, p.2 < 2) (hch : okR ch) (hd : d ≤ 60) (hb : b < 2) : okR (g_in lo ch d w b a) := by
  have := gp_le (d := d) (w := w) hd
  refine okR_app hch (mk2_ok (tk_ok a hlo).1 (fun p hp => ?_))
  have := (tk_mem (P := fun m => m < 2) a hk).1 p hp
  omega
theorem g_in_mk {lo ch : List (Nat × Nat)} {d w b a : Nat} (hk : ∀ p ∈ lo, p.2 < 2) (hch : mkK ch) (hd : d ≤ 60) (hb : b < 2) : mkK (g_in lo ch d w b a) := by
  have h1 := gp_le (d := d) (w := w) hd
  have h2 := gp_ge d w
  intro q hq
  rcases List.mem_append.mp hq with hq | hq
  · exact hch q hq
  · unfold mk2 at hq
    obtain ⟨p, hp, rfl⟩ := List.mem_map.mp hq
    have := (tk_mem (P := fun m => m < 2) a hk).1 p hp
    exact ⟨by show 40 ≤ _ + _ + _; omega, by show _ + _ + _ < 2404; omega⟩
theorem g_in_len {lo ch : List (Nat × Nat)} {d w b a : Nat} : (g_in lo ch d w b a).length ≤ ch.length + lo.length := by
  unfold g_in
  rw [List.length_append, mk2_len]
  have := (tk_len lo a).1
  omega
theorem mk2_id (L : List (Nat × Nat)) : mk2 (fun m => m) L = L := by
  unfold mk2
  induction L with
  | nil => rfl
  | cons p L ih => rw [List.map_cons, ih]
/-- the beans' way: hopper, chute, basket (by one burr) -/
theorem p_way {lo ch ba : List (Nat × Nat)} {pA pM qA qM uA uM : Nat → Int32} {pn pt qn qt un ut : Int32} {d w b a c : Nat} (hlo : rowR lo pA pM pn pt) (hch : rowR ch qA qM qn qt) (hba : rowR ba uA uM un ut) (k1 : okR lo) (k2 : ∀ p ∈ lo, p.2 < 2) (k3 : tot lo ≤ 4000) (k4 : lo.length ≤ 6) (k5 : okR ch) (k6 : tot ch ≤ 100) (k7 : okR ba) (hd : d ≤ 60) (hb : b < 2) (ha : a ≤ tot lo) (ha2 : a ≤ 400) (hc : c ≤ 100) (ho : tot ba + g_out ch a c ≤ 400) :
    ∃ R R2, f_X3_letOut 6 106 (nI a) (nI b) (nI (gp d w)) pA pM pn pt qA qM qn qt = some R ∧ f_X5_letOut 106 400 (nI (g_out ch a c)) 0 R.2.2.2.2.1 R.2.2.2.2.2.1 R.2.2.2.2.2.2.1 R.2.2.2.2.2.2.2 uA uM un ut = some R2 ∧ rowR (tk a lo).2 R.1 R.2.1 R.2.2.1 R.2.2.2.1 ∧ rowR (tk (g_out ch a c) (g_in lo ch d w b a)).2 R2.1 R2.2.1 R2.2.2.1 R2.2.2.2.1 ∧ rowR (ba ++ (tk (g_out ch a c) (g_in lo ch d w b a)).1) R2.2.2.2.2.1 R2.2.2.2.2.2.1 R2.2.2.2.2.2.2.1 R2.2.2.2.2.2.2.2 := by
  have l1 := len_tot k5
  have l2 := len_tot k7
  have hg := gp_le (d := d) (w := w) hd
  obtain ⟨R, h1, h2, h3⟩ := p_letHop (N := 6) (N2 := 106) (l := a) (b := b) (gap := gp d w) (by decide) (by decide) k1 k2 hb (by omega) hlo hch ha (by omega) k4 (by omega)
  have t1 := g_in_tot (lo := lo) (ch := ch) (d := d) (w := w) (b := b) ha
  have o1 := g_in_ok (lo := lo) (ch := ch) (d := d) (w := w) (b := b) (a := a) k1 k2 k5 hd hb
  have n1 := g_in_len (lo := lo) (ch := ch) (d := d) (w := w) (b := b) (a := a)
  have o2 := (tk_ok (g_out ch a c) o1).1
  have t2 := (tk_tot (g_in lo ch d w b a) (g_out ch a c)).1
  have l3 := len_tot o2
  obtain ⟨R2, h4, h5, h6⟩ := p_letOut (N := 106) (N2 := 400) (l := g_out ch a c) (y2 := 0) (g := fun m => m) (L := g_in lo ch d w b a) (L2 := ba) (by decide) (by decide) o1 h3 hba (by rw [t1]; unfold g_out; omega) (by rw [t1]; omega) (by omega) (by omega) (fun p _ => by
    rw [← nI_0, fa_or, Nat.or_zero])
  rw [mk2_id] at h6
  exact ⟨R, R2, h1, h4, h2, h5, h6⟩
end
section
/-! grinding -/
def bsel (b0 b1 : Bu) (b : Nat) : Bu := if b = 0 then b0 else b1
/-- the burrs behind a grinding by burr b -/
def bg0 (b0 : Bu) (b a n : Nat) : Bu := buC (if b = 0 then buG b0 a else b0) n
def bg1 (b1 : Bu) (b a n : Nat) : Bu := buC (if b = 0 then b1 else buG b1 a) n
noncomputable def a_grind (x1 x2 : Int32) (lo ch ba : List (Nat × Nat)) (c : Nat) : Int32 := by
  classical
  exact if bad2 x1 x2 400 then cIA else if tot lo < x2.toNatClampNeg then cNP else if 400 < tot ba + g_out ch x2.toNatClampNeg c then cLR else nI (g_out ch x2.toNatClampNeg c)
theorem buG_w (b : Bu) (a : Nat) (h : b.2.1 ≤ 300) : (buG b a).2.1 ≤ 300 := by show min 300 _ ≤ 300; omega
theorem p_grindBy {lo ch ba : List (Nat × Nat)} {b0 b1 : Bu} {v : Nat → Nat} {sec : Nat} {pA pM qA qM uA uM st : Nat → Int32} {pn pt d0 w0 g0 d1 w1 g1 qn qt un ut se gr i0 i1 : Int32} (hlo : rowR lo pA pM pn pt) (hch : rowR ch qA qM qn qt) (hba : rowR ba uA uM un ut) (h0 : buR b0 d0 w0 g0 i0) (h1 : buR b1 d1 w1 g1 i1) (hs : stR v st) (hse : se = nI sec) (k1 : okR lo) (k2 : ∀ p ∈ lo, p.2 < 2) (k3 : tot lo ≤ 4000) (k4 : lo.length ≤ 6) (k5 : okR ch) (k6 : tot ch ≤ 100) (k7 : okR ba) (k8 : tot ba ≤ 400) (k9 : buK b0) (k10 : buK b1) (k11 : stK v) (k12 : sec < 2 ^ 28) (x1 x2 : Int32) :
    ∃ R, f_X1_grindBy x1 x2 pA pM pn pt d0 w0 g0 d1 w1 g1 qA qM qn qt uA uM un ut st se gr = some R ∧ R.1 = a_grind x1 x2 lo ch ba (v 2) ∧ (0 ≤ R.1 → ∀ (b a : Nat), b < 2 → x1 = nI b → x2 = nI a → a < 2 ^ 31 →
      rowR (tk a lo).2 R.2.1 R.2.2.1 R.2.2.2.1 R.2.2.2.2.1 ∧
      (R.2.2.2.2.2.1 = nI (bg0 b0 b a (tmz sec ((a + 9) / 10))).2.1 ∧ R.2.2.2.2.2.2.1 = (bg0 b0 b a (tmz sec ((a + 9) / 10))).2.2.1) ∧
      (R.2.2.2.2.2.2.2.1 = nI (bg1 b1 b a (tmz sec ((a + 9) / 10))).2.1 ∧ R.2.2.2.2.2.2.2.2.1 = (bg1 b1 b a (tmz sec ((a + 9) / 10))).2.2.1) ∧
      rowR (tk (g_out ch a (v 2)) (g_in lo ch (bsel b0 b1 b).1 (bsel b0 b1 b).2.1 b a)).2 R.2.2.2.2.2.2.2.2.2.1 R.2.2.2.2.2.2.2.2.2.2.1 R.2.2.2.2.2.2.2.2.2.2.2.1 R.2.2.2.2.2.2.2.2.2.2.2.2.1 ∧
      rowR (ba ++ (tk (g_out ch a (v 2)) (g_in lo ch (bsel b0 b1 b).1 (bsel b0 b1 b).2.1 b a)).1) R.2.2.2.2.2.2.2.2.2.2.2.2.2.1 R.2.2.2.2.2.2.2.2.2.2.2.2.2.2.1 R.2.2.2.2.2.2.2.2.2.2.2.2.2.2.2.1 R.2.2.2.2.2.2.2.2.2.2.2.2.2.2.2.2.1 ∧
      R.2.2.2.2.2.2.2.2.2.2.2.2.2.2.2.2.2.1 = nI (sec + (a + 9) / 10) ∧ R.2.2.2.2.2.2.2.2.2.2.2.2.2.2.2.2.2.2 = gr + nI a) := by
  unfold a_grind
  rw [f_X1_grindBy]
  by_cases c1 : x1 = 0 ∨ x1 = 1
  · obtain ⟨b, hb, rfl⟩ := v01 c1
    rw [is01_t hb]
    simp only [Option.bind_some]
    rw [if_neg (by decide)]
    by_cases c2 : x2 < 1
    · rw [if_pos c2, if_pos (Or.inr (Or.inl c2))]
      exact ⟨_, rfl, rfl, (by first | exact ngA | exact ngB | exact ngC | exact ngD)⟩
    · rw [if_neg c2]
      by_cases c3 : (400 : Int32) < x2
      · rw [if_neg (Int32.not_le.mpr c3), if_pos (show bad2 _ _ 400 from Or.inr (Or.inr c3))]
        exact ⟨_, rfl, rfl, (by first | exact ngA | exact ngB | exact ngC | exact ngD)⟩
      · obtain ⟨a, ha1, ha2, rfl⟩ := v_rng (hi := 400) (by decide) c2 c3
        rw [if_pos (Int32.not_lt.mp c3), if_neg (show ¬ bad2 _ _ 400 from fun q => by rcases q with q | q | q; exact q c1; exact c2 q; exact c3 q), v_cl (by omega)]
        simp only [f_X3_amount, Option.bind_some]
        rw [hlo.2.1]
        by_cases c4 : tot lo < a
        · rw [if_neg (nI_ge c4 (by omega)), if_pos c4]
          exact ⟨_, rfl, rfl, (by first | exact ngA | exact ngB | exact ngC | exact ngD)⟩
        · have e2 : st (2 : Int32).toNatClampNeg = nI (v 2) := hs 2 (by decide)
          have hc : v 2 ≤ 100 := k11.2.2.2.1
          rw [if_pos (nI_le (by omega) (by omega)), if_neg c4, hch.2.1, e2, nI_add, p_maxz (by omega) (by omega), lt_v]
          have eo : tot ch + a - v 2 = g_out ch a (v 2) := rfl
          rw [eo, hba.2.1, nI_add, fa_lit 400]
          by_cases c5 : 400 < tot ba + g_out ch a (v 2)
          · have : g_out ch a (v 2) ≤ 500 := by unfold g_out; omega
            rw [if_neg (nI_ge c5 (by omega)), if_pos c5]
            exact ⟨_, rfl, rfl, (by first | exact ngA | exact ngB | exact ngC | exact ngD)⟩
          · rw [if_pos (nI_le (by omega) (by decide)), if_neg c5]
            obtain ⟨rfl, rfl, rfl, rfl⟩ := h0
            obtain ⟨rfl, rfl, rfl, rfl⟩ := h1
            subst hse
            have ht9 : nI a + (9 : Int32) = nI (a + 9) := by rw [fa_lit 9, nI_add]
            have ht : (nI a + (9 : Int32)) / 10 = nI ((a + 9) / 10) := by rw [ht9, fa_lit 10, pk_div (by omega) (by decide) (by decide)]
            rcases (show b = 0 ∨ b = 1 by omega) with rfl | rfl
            · obtain ⟨R, R2, r1, r2, r3, r4, r5⟩ := p_way (d := b0.1) (w := b0.2.1) (b := 0) (a := a) (c := v 2) hlo hch hba k1 k2 k3 k4 k5 k6 k7 k9.2.1 (by decide) (by omega) ha2 hc (by omega)
              rw [← hlo.2.1, ← hch.2.1, ← hba.2.1, if_pos nI_0, p_gap (by have := k9.2.1; omega) (by have := k9.2.2; omega)]
              simp only [Option.bind_some]
              rw [r1]
              simp only [Option.bind_some]
              rw [p_warm (by omega) (by have := k9.2.2; omega)]
              simp only [Option.bind_some]
              rw [r2]
              simp only [Option.bind_some, lt_v]
              rw [ht, p_pass (se := sec) (n := (a + 9) / 10) (w0 := min 300 (b0.2.1 + a / 4)) (w1 := b1.2.1) (by omega) (by omega) (buG_w b0 a k9.2.2) k10.2.2]
              simp only [Option.bind_some]
              refine ⟨_, rfl, rfl, fun _ b' a' hb' e1 e3 ha' => ?_⟩
              have q1 : b' = 0 := ((nI_eq (by omega) (by omega)).mp e1).symm
              have q2 : a' = a := ((nI_eq (by omega) ha').mp e3).symm
              subst q1; subst q2
              exact ⟨r3, ⟨rfl, rfl⟩, ⟨rfl, rfl⟩, r4, r5, rfl, rfl⟩
            · obtain ⟨R, R2, r1, r2, r3, r4, r5⟩ := p_way (d := b1.1) (w := b1.2.1) (b := 1) (a := a) (c := v 2) hlo hch hba k1 k2 k3 k4 k5 k6 k7 k10.2.1 (by decide) (by omega) ha2 hc (by omega)
              rw [← hlo.2.1, ← hch.2.1, ← hba.2.1, if_neg (by decide), p_gap (by have := k10.2.1; omega) (by have := k10.2.2; omega)]
              simp only [Option.bind_some]
              rw [r1]
              simp only [Option.bind_some]
              rw [p_warm (by omega) (by have := k10.2.2; omega)]
              simp only [Option.bind_some]
              rw [r2]
              simp only [Option.bind_some, lt_v]
              rw [ht, p_pass (se := sec) (n := (a + 9) / 10) (w0 := b0.2.1) (w1 := min 300 (b1.2.1 + a / 4)) (by omega) (by omega) k9.2.2 (buG_w b1 a k10.2.2)]
              simp only [Option.bind_some]
              refine ⟨_, rfl, rfl, fun _ b' a' hb' e1 e3 ha' => ?_⟩
              have q1 : b' = 1 := ((nI_eq (by omega) (by omega)).mp e1).symm
              have q2 : a' = a := ((nI_eq (by omega) ha').mp e3).symm
              subst q1; subst q2
              exact ⟨r3, ⟨rfl, rfl⟩, ⟨rfl, rfl⟩, r4, r5, rfl, rfl⟩
  · rw [is01_f c1]
    simp only [Option.bind_some]
    rw [if_pos trivial, if_pos (Or.inl c1)]
    exact ⟨_, rfl, rfl, (by first | exact ngA | exact ngB | exact ngC | exact ngD)⟩
end
section
/-! the other changes -/
noncomputable def a_dial (x1 x2 : Int32) (b0 b1 : Bu) : Int32 := by
  classical
  exact if bad2 x1 x2 60 then cIA else nI (bsel b0 b1 x1.toNatClampNeg).1
theorem p_turnDial {b0 b1 : Bu} (k0 : buK b0) (k1 : buK b1) (x1 x2 : Int32) : ∃ R, f_X1_turnDial x1 x2 (nI b0.1) (nI b1.1) = some R ∧ R.1 = a_dial x1 x2 b0 b1 ∧ (0 ≤ R.1 → ∀ (b a : Nat), b < 2 → x1 = nI b → x2 = nI a → a < 2 ^ 31 → R.2.1 = nI (if b = 0 then a else b0.1) ∧ R.2.2 = nI (if b = 0 then b1.1 else a)) := by
  unfold a_dial
  rw [f_X1_turnDial]
  by_cases c1 : x1 = 0 ∨ x1 = 1
  · obtain ⟨b, hb, rfl⟩ := v01 c1
    rw [is01_t hb]
    simp only [Option.bind_some]
    rw [if_neg (by decide)]
    by_cases c2 : x2 < 1
    · rw [if_pos c2, if_pos (Or.inr (Or.inl c2))]
      exact ⟨_, rfl, rfl, (by first | exact ngA | exact ngB | exact ngC | exact ngD)⟩
    · rw [if_neg c2]
      by_cases c3 : (60 : Int32) < x2
      · rw [if_neg (Int32.not_le.mpr c3), if_pos (show bad2 _ _ 60 from Or.inr (Or.inr c3))]
        exact ⟨_, rfl, rfl, (by first | exact ngA | exact ngB | exact ngC | exact ngD)⟩
      · obtain ⟨a, ha1, ha2, rfl⟩ := v_rng (hi := 60) (by decide) c2 c3
        rw [if_pos (Int32.not_lt.mp c3), if_neg (show ¬ bad2 _ _ 60 from fun q => by rcases q with q | q | q; exact q c1; exact c2 q; exact c3 q), v_cl (by omega)]
        rcases (show b = 0 ∨ b = 1 by omega) with rfl | rfl
        · rw [if_pos nI_0]
          refine ⟨_, rfl, rfl, fun _ b' a' hb' e1 e3 ha' => ?_⟩
          have q1 : b' = 0 := ((nI_eq (by omega) (by omega)).mp e1).symm
          have q2 : a' = a := ((nI_eq (by omega) ha').mp e3).symm
          subst q1; subst q2
          exact ⟨rfl, rfl⟩
        · rw [if_neg (by decide)]
          refine ⟨_, rfl, rfl, fun _ b' a' hb' e1 e3 ha' => ?_⟩
          have q1 : b' = 1 := ((nI_eq (by omega) (by omega)).mp e1).symm
          have q2 : a' = a := ((nI_eq (by omega) ha').mp e3).symm
          subst q1; subst q2
          exact ⟨rfl, rfl⟩
  · rw [is01_f c1]
    simp only [Option.bind_some]
    rw [if_pos trivial, if_pos (Or.inl c1)]
    exact ⟨_, rfl, rfl, (by first | exact ngA | exact ngB | exact ngC | exact ngD)⟩
noncomputable def a_rest (x1 : Int32) (w0 w1 sec : Nat) : Int32 := by
  classical
  exact if x1 < 1 ∨ nI 999 < x1 then cIA else nI (w0 + w1 - cl (tmz sec x1.toNatClampNeg) w0 - cl (tmz sec x1.toNatClampNeg) w1)
theorem p_letPass {w0 w1 sec : Nat} (h0 : w0 ≤ 300) (h1 : w1 ≤ 300) (hs : sec < 2 ^ 28) (x1 : Int32) : ∃ R, f_X1_letPass x1 (nI w0) (nI w1) (nI sec) = some R ∧ R.1 = a_rest x1 w0 w1 sec ∧ (0 ≤ R.1 → ∀ n : Nat, x1 = nI n → n < 2 ^ 31 → R.2.1 = nI (cl (tmz sec n) w0) ∧ R.2.2.1 = nI (cl (tmz sec n) w1) ∧ R.2.2.2 = nI (sec + n)) := by
  unfold a_rest
  rw [f_X1_letPass]
  by_cases c2 : x1 < 1
  · rw [if_pos c2, if_pos (Or.inl c2)]
    exact ⟨_, rfl, rfl, (by first | exact ngA | exact ngB | exact ngC | exact ngD)⟩
  · rw [if_neg c2]
    by_cases c3 : (999 : Int32) < x1
    · rw [if_neg (Int32.not_le.mpr c3), if_pos (show x1 < 1 ∨ nI 999 < x1 from Or.inr c3)]
      exact ⟨_, rfl, rfl, (by first | exact ngA | exact ngB | exact ngC | exact ngD)⟩
    · obtain ⟨a, ha1, ha2, rfl⟩ := v_rng (hi := 999) (by decide) c2 c3
      have l0 := cl_le (tmz sec a) w0
      have l1 := cl_le (tmz sec a) w1
      rw [if_pos (Int32.not_lt.mp c3), if_neg (show ¬ (nI a < 1 ∨ nI 999 < nI a) from fun q => by rcases q with q | q; exact c2 q; exact c3 q), v_cl (by omega), lt_v, p_pass (by omega) (by omega) h0 h1]
      simp only [Option.bind_some]
      refine ⟨_, rfl, ?_, fun _ n e hn => ?_⟩
      · show nI w0 + nI w1 - nI _ - nI _ = _
        rw [nI_add, pk_sub (by omega), pk_sub (by omega)]
      · have q : n = a := ((nI_eq (by omega) hn).mp e).symm
        subst q
        exact ⟨rfl, rfl, rfl⟩
theorem p_emptyChute (qn pu : Int32) (T : Nat) : f_X1_emptyChute qn (nI T) pu = some (nI T, 0, 0, pu + nI T) := rfl
/-- the burr of a shot, its kind -/
def mostly (b : Nat → Bool) (L : List (Nat × Nat)) : Nat := if tot L < 2 * sumIf b L then 1 else 0
def isB (m : Nat) : Bool := m / 2 % 2 == 1
def isK (m : Nat) : Bool := m % 2 == 1
/-- a burr that is corrected, if it has to be -/
def buX (b : Bu) (t g : Nat) : Bu := (cor b.1 t g, b.2.1, b.2.2.1, b.2.2.2 + 1)
theorem p_judge_0 {b : Bu} {v : Nat → Nat} {st : Nat → Int32} {t : Nat} (hs : stR v st) (hv : stK v) (hb : buK b) (ht : t ≤ 30000) (nr : Int32) : f_X1_judge_0 (nI t) (nI b.1) b.2.2.2 st nr = some (if aw t (v 0) ≤ v 1 then (nI b.1, b.2.2.2, nr + 1) else if v 5 = 1 then (nI (buX b t (v 0)).1, (buX b t (v 0)).2.2.2, nr) else (nI b.1, b.2.2.2, nr)) := by
  obtain ⟨v1, v2, v3, v4, v5, v6, v7, v8, v9⟩ := hv
  have e0 : st (0 : Int32).toNatClampNeg = nI (v 0) := hs 0 (by decide)
  have e1 : st (1 : Int32).toNatClampNeg = nI (v 1) := hs 1 (by decide)
  have e5 : st (5 : Int32).toNatClampNeg = nI (v 5) := hs 5 (by decide)
  have ha : aw t (v 0) < 2 ^ 30 := by unfold aw; split <;> omega
  rw [f_X1_judge_0, e0, e1, e5, p_absI (by omega) (by omega), lt_v]
  by_cases h : aw t (v 0) ≤ v 1
  · rw [if_neg (nI_nlt h (by omega)), if_pos h]
    rfl
  · rw [if_pos (nI_lt (by omega) (by omega)), if_neg h]
    by_cases h5 : v 5 = 1
    · rw [if_pos (by rw [h5]; rfl), if_pos h5, p_correct hb.2.1 ht v1 v2]
      rfl
    · rw [if_neg (show ¬ nI (v 5) = (1 : Int32) from fun q => h5 ((nI_eq (b := 1) (by omega) (by decide)).mp q)), if_neg h5]
theorem p_judge_1 {b : Bu} {v : Nat → Nat} {st : Nat → Int32} {t : Nat} (hs : stR v st) (hv : stK v) (hb : buK b) (ht : t ≤ 30000) (nr : Int32) : f_X1_judge_1 (nI t) (nI b.1) b.2.2.2 st nr = some (if aw t (v 0) ≤ v 1 then (nI b.1, b.2.2.2, nr + 1) else if v 5 = 1 then (nI (buX b t (v 0)).1, (buX b t (v 0)).2.2.2, nr) else (nI b.1, b.2.2.2, nr)) := by
  obtain ⟨v1, v2, v3, v4, v5, v6, v7, v8, v9⟩ := hv
  have e0 : st (0 : Int32).toNatClampNeg = nI (v 0) := hs 0 (by decide)
  have e1 : st (1 : Int32).toNatClampNeg = nI (v 1) := hs 1 (by decide)
  have e5 : st (5 : Int32).toNatClampNeg = nI (v 5) := hs 5 (by decide)
  have ha : aw t (v 0) < 2 ^ 30 := by unfold aw; split <;> omega
  rw [f_X1_judge_1, e0, e1, e5, p_absI (by omega) (by omega), lt_v]
  by_cases h : aw t (v 0) ≤ v 1
  · rw [if_neg (nI_nlt h (by omega)), if_pos h]
    rfl
  · rw [if_pos (nI_lt (by omega) (by omega)), if_neg h]
    by_cases h5 : v 5 = 1
    · rw [if_pos (by rw [h5]; rfl), if_pos h5, p_correct hb.2.1 ht v1 v2]
      rfl
    · rw [if_neg (show ¬ nI (v 5) = (1 : Int32) from fun q => h5 ((nI_eq (b := 1) (by omega) (by decide)).mp q)), if_neg h5]
end
section
/-! a shot -/
theorem hb_B {m : Nat} : nI m &&& (2 : Int32) = 0 ↔ isB m = false := by
  rw [fa_and2]
  unfold isB
  rcases Nat.mod_two_eq_zero_or_one (m / 2) with h | h
  · rw [h]; exact ⟨fun _ => rfl, fun _ => nI_0⟩
  · rw [h]
    exact ⟨fun q => absurd q (nI_ne0 (by decide) (by decide)), fun q => by cases q⟩
theorem hb_K {m : Nat} : nI m &&& (1 : Int32) = 0 ↔ isK m = false := by
  have e : nI m &&& (1 : Int32) = nI (m % 2) := fa_mask m 1
  rw [e]
  unfold isK
  rcases Nat.mod_two_eq_zero_or_one m with h | h
  · rw [h]; exact ⟨fun _ => rfl, fun _ => nI_0⟩
  · rw [h]
    exact ⟨fun q => absurd q (nI_ne0 (by decide) (by decide)), fun q => by cases q⟩
/-- the burr behind a shot's judging -/
def buJ (v : Nat → Nat) (t : Nat) (b : Bu) : Bu := if aw t (v 0) ≤ v 1 then b else if v 5 = 1 then buX b t (v 0) else b
theorem buJ_w (v : Nat → Nat) (t : Nat) (b : Bu) : (buJ v t b).2.1 = b.2.1 := by
  unfold buJ
  split
  · rfl
  · split <;> rfl
theorem buJ_g (v : Nat → Nat) (t : Nat) (b : Bu) : (buJ v t b).2.2.1 = b.2.2.1 := by
  unfold buJ
  split
  · rfl
  · split <;> rfl
def nrJ (v : Nat → Nat) (t : Nat) (nr : Int32) : Int32 := if aw t (v 0) ≤ v 1 then nr + 1 else nr
theorem p_judge0 {b : Bu} {v : Nat → Nat} {st : Nat → Int32} {t : Nat} (hs : stR v st) (hv : stK v) (hb : buK b) (ht : t ≤ 30000) (nr : Int32) : f_X1_judge_0 (nI t) (nI b.1) b.2.2.2 st nr = some (nI (buJ v t b).1, (buJ v t b).2.2.2, nrJ v t nr) := by
  rw [p_judge_0 hs hv hb ht]
  unfold buJ nrJ
  split
  · rfl
  · split <;> rfl
theorem p_judge1 {b : Bu} {v : Nat → Nat} {st : Nat → Int32} {t : Nat} (hs : stR v st) (hv : stK v) (hb : buK b) (ht : t ≤ 30000) (nr : Int32) : f_X1_judge_1 (nI t) (nI b.1) b.2.2.2 st nr = some (nI (buJ v t b).1, (buJ v t b).2.2.2, nrJ v t nr) := by
  rw [p_judge_1 hs hv hb ht]
  unfold buJ nrJ
  split
  · rfl
  · split <;> rfl
/-- the burrs behind a shot by burr b -/
def bs0 (v : Nat → Nat) (t b n : Nat) (b0 : Bu) : Bu := buC (if b = 0 then buJ v t b0 else b0) n
def bs1 (v : Nat → Nat) (t b n : Nat) (b1 : Bu) : Bu := buC (if b = 0 then b1 else buJ v t b1) n
theorem mostly_lt (b : Nat → Bool) (L : List (Nat × Nat)) : mostly b L < 2 := by
  unfold mostly
  split <;> omega
theorem mostly_I (b : Nat → Bool) (L : List (Nat × Nat)) : (if tot L < 2 * sumIf b L then (1 : Int32) else 0) = nI (mostly b L) := by
  unfold mostly
  split <;> rfl
def shotN (v : Nat → Nat) (ba : List (Nat × Nat)) (mk : Int32) (sec : Nat) : Sh := (mk, timeS v ba, nI (tot ba), nI (mostly isB ba), nI (mostly isK ba), nI sec, nI ba.length)
noncomputable def a_shot (v : Nat → Nat) (ba : List (Nat × Nat)) : Int32 := if tot ba = 0 then cNP else nI (timeS v ba)
theorem p_makeShot {ba : List (Nat × Nat)} {b0 b1 : Bu} {v : Nat → Nat} {K : List Sh} {sec : Nat} {uA uM st sF : Nat → Int32} {d0 w0 g0 i0 d1 w1 g1 i1 un ut se sk : Int32} (hba : rowR ba uA uM un ut) (h0 : buR b0 d0 w0 g0 i0) (h1 : buR b1 d1 w1 g1 i1) (hK : shR K sF sk) (hs : stR v st) (hse : se = nI sec) (k7 : okR ba) (k8 : tot ba ≤ 400) (k9 : buK b0) (k10 : buK b1) (k11 : stK v) (k12 : sec < 2 ^ 28) (sm br nr : Int32) :
    ∃ R, f_X1_makeShot d0 w0 i0 d1 w1 i1 uA uM un ut sF sk sm st se br nr = some R ∧ R.1 = a_shot v ba ∧ (0 ≤ R.1 → tot ba ≠ 0 ∧
      (R.2.1 = nI (bs0 v (timeS v ba) (mostly isB ba) (tmz sec (timeS v ba / 10)) b0).1 ∧ R.2.2.1 = nI (bs0 v (timeS v ba) (mostly isB ba) (tmz sec (timeS v ba / 10)) b0).2.1 ∧ R.2.2.2.1 = (bs0 v (timeS v ba) (mostly isB ba) (tmz sec (timeS v ba / 10)) b0).2.2.2) ∧
      (R.2.2.2.2.1 = nI (bs1 v (timeS v ba) (mostly isB ba) (tmz sec (timeS v ba / 10)) b1).1 ∧ R.2.2.2.2.2.1 = nI (bs1 v (timeS v ba) (mostly isB ba) (tmz sec (timeS v ba / 10)) b1).2.1 ∧ R.2.2.2.2.2.2.1 = (bs1 v (timeS v ba) (mostly isB ba) (tmz sec (timeS v ba / 10)) b1).2.2.2) ∧
      R.2.2.2.2.2.2.2.1 = 0 ∧ R.2.2.2.2.2.2.2.2.1 = 0 ∧
      shR ((shotN v ba sm sec :: K).take 12) R.2.2.2.2.2.2.2.2.2.1 R.2.2.2.2.2.2.2.2.2.2.1 ∧ R.2.2.2.2.2.2.2.2.2.2.2.1 = sm + 1 ∧
      R.2.2.2.2.2.2.2.2.2.2.2.2.1 = nI (sec + timeS v ba / 10) ∧ R.2.2.2.2.2.2.2.2.2.2.2.2.2.1 = br + nI (tot ba) ∧ R.2.2.2.2.2.2.2.2.2.2.2.2.2.2 = nrJ v (timeS v ba) nr) := by
  have hlen := len_tot k7
  have ht := timeS_le k11 ba
  unfold a_shot
  rw [f_X1_makeShot, p_time hs k11 hba k7 k8]
  simp only [Option.bind_some]
  by_cases h : tot ba = 0
  · rw [if_pos h, if_neg (by decide)]
    exact ⟨_, rfl, rfl, (by first | exact ngA | exact ngB | exact ngC | exact ngD)⟩
  · rw [if_neg h, if_pos (nI_pos' (by omega)), p_mostly (b := isB) (by decide) (by omega) (by omega) hba (fun p _ => hb_B), mostly_I]
    simp only [Option.bind_some]
    have eK : f_X5_isMostly 400 1 uA uM un ut = some (nI (mostly isK ba)) := by
      rw [p_mostly (b := isK) (by decide) (by omega) (by omega) hba (fun p _ => hb_K), mostly_I]
    obtain ⟨rfl, rfl, rfl, rfl⟩ := h0
    obtain ⟨rfl, rfl, rfl, rfl⟩ := h1
    subst hse
    have e10 : nI (timeS v ba) / 10 = nI (timeS v ba / 10) := by rw [fa_lit 10, pk_div (by omega) (by decide) (by decide)]
    obtain ⟨S, s1, s2, s3⟩ := p_addShot (t := timeS v ba) hK ht (nI (tot ba)) (nI (mostly isB ba)) (nI (mostly isK ba)) (nI sec) (nI ba.length) sm
    have hp := p_pass (se := sec) (n := timeS v ba / 10) (w0 := b0.2.1) (w1 := b1.2.1) (by omega) (by omega) k9.2.2 k10.2.2
    have hB := mostly_lt isB ba
    have hK2 := mostly_lt isK ba
    have key : ∀ z : Int32, z = nI (mostly isK ba) → ∃ R, f_X1_makeShot_J44 uA uM st (nI (timeS v ba)) (nI (mostly isB ba)) z (nI b0.1) (nI b0.2.1) b0.2.2.2 (nI b1.1) (nI b1.2.1) b1.2.2.2 un ut sF sk sm (nI sec) br nr = some R ∧ R.1 = nI (timeS v ba) ∧ (0 ≤ R.1 → tot ba ≠ 0 ∧
      (R.2.1 = nI (bs0 v (timeS v ba) (mostly isB ba) (tmz sec (timeS v ba / 10)) b0).1 ∧ R.2.2.1 = nI (bs0 v (timeS v ba) (mostly isB ba) (tmz sec (timeS v ba / 10)) b0).2.1 ∧ R.2.2.2.1 = (bs0 v (timeS v ba) (mostly isB ba) (tmz sec (timeS v ba / 10)) b0).2.2.2) ∧
      (R.2.2.2.2.1 = nI (bs1 v (timeS v ba) (mostly isB ba) (tmz sec (timeS v ba / 10)) b1).1 ∧ R.2.2.2.2.2.1 = nI (bs1 v (timeS v ba) (mostly isB ba) (tmz sec (timeS v ba / 10)) b1).2.1 ∧ R.2.2.2.2.2.2.1 = (bs1 v (timeS v ba) (mostly isB ba) (tmz sec (timeS v ba / 10)) b1).2.2.2) ∧
      R.2.2.2.2.2.2.2.1 = 0 ∧ R.2.2.2.2.2.2.2.2.1 = 0 ∧
      shR ((shotN v ba sm sec :: K).take 12) R.2.2.2.2.2.2.2.2.2.1 R.2.2.2.2.2.2.2.2.2.2.1 ∧ R.2.2.2.2.2.2.2.2.2.2.2.1 = sm + 1 ∧
      R.2.2.2.2.2.2.2.2.2.2.2.2.1 = nI (sec + timeS v ba / 10) ∧ R.2.2.2.2.2.2.2.2.2.2.2.2.2.1 = br + nI (tot ba) ∧ R.2.2.2.2.2.2.2.2.2.2.2.2.2.2 = nrJ v (timeS v ba) nr) := by
      intro z hz
      subst hz
      rw [f_X1_makeShot_J44, hba.1, hba.2.1, s1]
      simp only [Option.bind_some, lt_v, f_X5_clear]
      rw [e10, hp]
      rcases (show mostly isB ba = 0 ∨ mostly isB ba = 1 by omega) with q | q
      · rw [q, if_pos nI_0, p_judge0 hs k11 k9 ht]
        simp only [Option.bind_some]
        refine ⟨_, rfl, rfl, fun _ => ⟨h, ⟨?_, ?_, ?_⟩, ⟨?_, ?_, ?_⟩, rfl, rfl, ?_, s3, rfl, rfl, rfl⟩⟩
        · rfl
        · show nI (cl _ b0.2.1) = nI (cl _ (buJ v (timeS v ba) b0).2.1)
          rw [buJ_w]
        · rfl
        · rfl
        · rfl
        · rfl
        · unfold shotN
          rw [q] at s2 ⊢
          exact s2
      · rw [q, if_neg (nI_ne0 (by decide) (by decide)), p_judge1 hs k11 k10 ht]
        simp only [Option.bind_some]
        refine ⟨_, rfl, rfl, fun _ => ⟨h, ⟨?_, ?_, ?_⟩, ⟨?_, ?_, ?_⟩, rfl, rfl, ?_, s3, rfl, rfl, rfl⟩⟩
        · rfl
        · rfl
        · rfl
        · rfl
        · show nI (cl _ b1.2.1) = nI (cl _ (buJ v (timeS v ba) b1).2.1)
          rw [buJ_w]
        · rfl
        · unfold shotN
          rw [q] at s2 ⊢
          exact s2
    have keyJ : ∀ y : Int32, y = nI (mostly isB ba) → f_X1_makeShot_J27 uA uM st (nI (timeS v ba)) y (nI b0.1) (nI b0.2.1) b0.2.2.2 (nI b1.1) (nI b1.2.1) b1.2.2.2 un ut sF sk sm (nI sec) br nr = f_X1_makeShot_J44 uA uM st (nI (timeS v ba)) (nI (mostly isB ba)) (nI (mostly isK ba)) (nI b0.1) (nI b0.2.1) b0.2.2.2 (nI b1.1) (nI b1.2.1) b1.2.2.2 un ut sF sk sm (nI sec) br nr := by
      intro y hy
      subst hy
      rw [f_X1_makeShot_J27, eK]
      simp only [Option.bind_some]
      rcases (show mostly isK ba = 0 ∨ mostly isK ba = 1 by omega) with q | q
      · rw [q, if_pos nI_0]; rfl
      · rw [q, if_neg (nI_ne0 (by decide) (by decide))]; rfl
    obtain ⟨R, r1, r2, r3⟩ := key _ rfl
    refine ⟨R, ?_, r2, r3⟩
    rw [← r1]
    rcases (show mostly isB ba = 0 ∨ mostly isB ba = 1 by omega) with q | q
    · rw [if_pos (by rw [q]; exact nI_0)]
      exact keyJ 0 (by rw [q]; exact nI_0.symm)
    · rw [if_neg (by rw [q]; exact nI_ne0 (by decide) (by decide))]
      exact keyJ 1 (by rw [q]; rfl)
end
section
/-! a grinder as a whole: its state, what the changes make of it -/
def GR (σ : Sp) (g : Gr) : Prop := rowR (v_lo σ) g.1 g.2.1 g.2.2.1 g.2.2.2.1 ∧ buR (v_b0 σ) g.2.2.2.2.1 g.2.2.2.2.2.1 g.2.2.2.2.2.2.1 g.2.2.2.2.2.2.2.1 ∧ buR (v_b1 σ) g.2.2.2.2.2.2.2.2.1 g.2.2.2.2.2.2.2.2.2.1 g.2.2.2.2.2.2.2.2.2.2.1 g.2.2.2.2.2.2.2.2.2.2.2.1 ∧ rowR (v_ch σ) g.2.2.2.2.2.2.2.2.2.2.2.2.1 g.2.2.2.2.2.2.2.2.2.2.2.2.2.1 g.2.2.2.2.2.2.2.2.2.2.2.2.2.2.1 g.2.2.2.2.2.2.2.2.2.2.2.2.2.2.2.1 ∧ rowR (v_ba σ) g.2.2.2.2.2.2.2.2.2.2.2.2.2.2.2.2.1 g.2.2.2.2.2.2.2.2.2.2.2.2.2.2.2.2.2.1 g.2.2.2.2.2.2.2.2.2.2.2.2.2.2.2.2.2.2.1 g.2.2.2.2.2.2.2.2.2.2.2.2.2.2.2.2.2.2.2.1 ∧ shR (v_K σ) g.2.2.2.2.2.2.2.2.2.2.2.2.2.2.2.2.2.2.2.2.1 g.2.2.2.2.2.2.2.2.2.2.2.2.2.2.2.2.2.2.2.2.2.1 ∧ g.2.2.2.2.2.2.2.2.2.2.2.2.2.2.2.2.2.2.2.2.2.2.1 = v_mk σ ∧ stR (v_st σ) g.2.2.2.2.2.2.2.2.2.2.2.2.2.2.2.2.2.2.2.2.2.2.2.1 ∧ g.2.2.2.2.2.2.2.2.2.2.2.2.2.2.2.2.2.2.2.2.2.2.2.2.1 = nI (v_se σ) ∧ g.2.2.2.2.2.2.2.2.2.2.2.2.2.2.2.2.2.2.2.2.2.2.2.2.2.1 = v_fi σ ∧ g.2.2.2.2.2.2.2.2.2.2.2.2.2.2.2.2.2.2.2.2.2.2.2.2.2.2.1 = v_gr σ ∧ g.2.2.2.2.2.2.2.2.2.2.2.2.2.2.2.2.2.2.2.2.2.2.2.2.2.2.2.1 = v_br σ ∧ g.2.2.2.2.2.2.2.2.2.2.2.2.2.2.2.2.2.2.2.2.2.2.2.2.2.2.2.2.1 = v_pu σ ∧ g.2.2.2.2.2.2.2.2.2.2.2.2.2.2.2.2.2.2.2.2.2.2.2.2.2.2.2.2.2 = v_nr σ
/-- what every state keeps; its second is at most B -/
def KK (σ : Sp) (B : Nat) : Prop := okR (v_lo σ) ∧ (∀ p ∈ v_lo σ, p.2 < 2) ∧ tot (v_lo σ) ≤ 4000 ∧ (v_lo σ).length ≤ 6 ∧ okR (v_ch σ) ∧ mkK (v_ch σ) ∧ tot (v_ch σ) ≤ 100 ∧ okR (v_ba σ) ∧ mkK (v_ba σ) ∧ tot (v_ba σ) ≤ 400 ∧ buK (v_b0 σ) ∧ buK (v_b1 σ) ∧ stK (v_st σ) ∧ v_se σ ≤ B
abbrev nx (x : Int32) : Nat := x.toNatClampNeg
def o_fill (k a : Nat) (σ : Sp) : Sp := (pour k a (v_lo σ), v_ch σ, v_ba σ, v_b0 σ, v_b1 σ, v_K σ, v_mk σ, v_st σ, v_se σ, v_fi σ + nI a, v_gr σ, v_br σ, v_pu σ, v_nr σ)
def o_grind (b a : Nat) (σ : Sp) : Sp := ((tk a (v_lo σ)).2, (tk (g_out (v_ch σ) a (v_st σ 2)) (g_in (v_lo σ) (v_ch σ) (bsel (v_b0 σ) (v_b1 σ) b).1 (bsel (v_b0 σ) (v_b1 σ) b).2.1 b a)).2, v_ba σ ++ (tk (g_out (v_ch σ) a (v_st σ 2)) (g_in (v_lo σ) (v_ch σ) (bsel (v_b0 σ) (v_b1 σ) b).1 (bsel (v_b0 σ) (v_b1 σ) b).2.1 b a)).1, bg0 (v_b0 σ) b a (tmz (v_se σ) ((a + 9) / 10)), bg1 (v_b1 σ) b a (tmz (v_se σ) ((a + 9) / 10)), v_K σ, v_mk σ, v_st σ, v_se σ + (a + 9) / 10, v_fi σ, v_gr σ + nI a, v_br σ, v_pu σ, v_nr σ)
def o_dial (b d : Nat) (σ : Sp) : Sp := (v_lo σ, v_ch σ, v_ba σ, (if b = 0 then (d, (v_b0 σ).2) else v_b0 σ), (if b = 0 then v_b1 σ else (d, (v_b1 σ).2)), v_K σ, v_mk σ, v_st σ, v_se σ, v_fi σ, v_gr σ, v_br σ, v_pu σ, v_nr σ)
def o_rest (n : Nat) (σ : Sp) : Sp := (v_lo σ, v_ch σ, v_ba σ, buC (v_b0 σ) (tmz (v_se σ) n), buC (v_b1 σ) (tmz (v_se σ) n), v_K σ, v_mk σ, v_st σ, v_se σ + n, v_fi σ, v_gr σ, v_br σ, v_pu σ, v_nr σ)
def o_shot (σ : Sp) : Sp := (v_lo σ, v_ch σ, [], bs0 (v_st σ) (timeS (v_st σ) (v_ba σ)) (mostly isB (v_ba σ)) (tmz (v_se σ) (timeS (v_st σ) (v_ba σ) / 10)) (v_b0 σ), bs1 (v_st σ) (timeS (v_st σ) (v_ba σ)) (mostly isB (v_ba σ)) (tmz (v_se σ) (timeS (v_st σ) (v_ba σ) / 10)) (v_b1 σ), (shotN (v_st σ) (v_ba σ) (v_mk σ) (v_se σ) :: v_K σ).take 12, v_mk σ + 1, v_st σ, v_se σ + timeS (v_st σ) (v_ba σ) / 10, v_fi σ, v_gr σ, v_br σ + nI (tot (v_ba σ)), v_pu σ, nrJ (v_st σ) (timeS (v_st σ) (v_ba σ)) (v_nr σ))
def o_purge (σ : Sp) : Sp := (v_lo σ, [], v_ba σ, v_b0 σ, v_b1 σ, v_K σ, v_mk σ, v_st σ, v_se σ, v_fi σ, v_gr σ, v_br σ, v_pu σ + nI (tot (v_ch σ)), v_nr σ)
def o_corr (b : Nat) (σ : Sp) : Sp := (v_lo σ, v_ch σ, v_ba σ, (if b = 0 then buX (v_b0 σ) (sk0 (v_K σ) 0).2.1 (v_st σ 0) else v_b0 σ), (if b = 0 then v_b1 σ else buX (v_b1 σ) (sk0 (v_K σ) 0).2.1 (v_st σ 0)), v_K σ, v_mk σ, v_st σ, v_se σ, v_fi σ, v_gr σ, v_br σ, v_pu σ, v_nr σ)
def updN (v : Nat → Nat) (i a : Nat) : Nat → Nat := fun k => if k = i then a else v k
def o_set (i a : Nat) (σ : Sp) : Sp := (v_lo σ, v_ch σ, v_ba σ, v_b0 σ, v_b1 σ, v_K σ, v_mk σ, updN (v_st σ) i a, v_se σ, v_fi σ, v_gr σ, v_br σ, v_pu σ, v_nr σ)
theorem b2_no {x1 x2 : Int32} {hi : Nat} (hh : hi < 2 ^ 31) (h : ¬ bad2 x1 x2 hi) : nx x1 < 2 ∧ 1 ≤ nx x2 ∧ nx x2 ≤ hi ∧ x1 = nI (nx x1) ∧ x2 = nI (nx x2) := by
  have h1 : x1 = 0 ∨ x1 = 1 := Classical.byContradiction (fun q => h (Or.inl q))
  have h2 : ¬ x2 < 1 := fun q => h (Or.inr (Or.inl q))
  have h3 : ¬ nI hi < x2 := fun q => h (Or.inr (Or.inr q))
  obtain ⟨k, hk, rfl⟩ := v01 h1
  obtain ⟨a, ha1, ha2, rfl⟩ := v_rng hh h2 h3
  show (nI k).toNatClampNeg < 2 ∧ 1 ≤ (nI a).toNatClampNeg ∧ (nI a).toNatClampNeg ≤ hi ∧ nI k = nI (nI k).toNatClampNeg ∧ nI a = nI (nI a).toNatClampNeg
  rw [v_cl (by omega), v_cl (by omega)]
  exact ⟨hk, ha1, ha2, rfl, rfl⟩
theorem afill_ok {x1 x2 : Int32} {L : List (Nat × Nat)} (h : 0 ≤ a_fill x1 x2 L) : ¬ bad2 x1 x2 999 ∧ ¬ full (nx x1) (nx x2) L ∧ a_fill x1 x2 L = nI (tot L + nx x2) := by
  unfold a_fill at h ⊢
  by_cases c1 : bad2 x1 x2 999
  · rw [if_pos c1] at h; exact absurd h (by decide)
  · rw [if_neg c1] at h ⊢
    by_cases c2 : full x1.toNatClampNeg x2.toNatClampNeg L
    · rw [if_pos c2] at h; exact absurd h (by decide)
    · rw [if_neg c2]; exact ⟨c1, c2, rfl⟩
theorem agrind_ok {x1 x2 : Int32} {lo ch ba : List (Nat × Nat)} {c : Nat} (h : 0 ≤ a_grind x1 x2 lo ch ba c) : ¬ bad2 x1 x2 400 ∧ nx x2 ≤ tot lo ∧ tot ba + g_out ch (nx x2) c ≤ 400 ∧ a_grind x1 x2 lo ch ba c = nI (g_out ch (nx x2) c) := by
  unfold a_grind at h ⊢
  by_cases c1 : bad2 x1 x2 400
  · rw [if_pos c1] at h; exact absurd h (by decide)
  · rw [if_neg c1] at h ⊢
    by_cases c2 : tot lo < x2.toNatClampNeg
    · rw [if_pos c2] at h; exact absurd h (by decide)
    · rw [if_neg c2] at h ⊢
      by_cases c3 : 400 < tot ba + g_out ch x2.toNatClampNeg c
      · rw [if_pos c3] at h; exact absurd h (by decide)
      · rw [if_neg c3]; exact ⟨c1, Nat.not_lt.mp c2, Nat.not_lt.mp c3, rfl⟩
theorem adial_ok {x1 x2 : Int32} {b0 b1 : Bu} (h : 0 ≤ a_dial x1 x2 b0 b1) : ¬ bad2 x1 x2 60 ∧ a_dial x1 x2 b0 b1 = nI (bsel b0 b1 (nx x1)).1 := by
  unfold a_dial at h ⊢
  by_cases c1 : bad2 x1 x2 60
  · rw [if_pos c1] at h; exact absurd h (by decide)
  · rw [if_neg c1]; exact ⟨c1, rfl⟩
theorem arest_ok {x1 : Int32} {w0 w1 sec : Nat} (h : 0 ≤ a_rest x1 w0 w1 sec) : 1 ≤ nx x1 ∧ nx x1 ≤ 999 ∧ x1 = nI (nx x1) ∧ a_rest x1 w0 w1 sec = nI (w0 + w1 - cl (tmz sec (nx x1)) w0 - cl (tmz sec (nx x1)) w1) := by
  unfold a_rest at h ⊢
  by_cases c1 : x1 < 1 ∨ nI 999 < x1
  · rw [if_pos c1] at h; exact absurd h (by decide)
  · rw [if_neg c1]
    obtain ⟨a, ha1, ha2, rfl⟩ := v_rng (by decide) (fun q => c1 (Or.inl q)) (fun q => c1 (Or.inr q))
    have e : (nI a).toNatClampNeg = a := v_cl (by omega)
    show 1 ≤ (nI a).toNatClampNeg ∧ (nI a).toNatClampNeg ≤ 999 ∧ nI a = nI (nI a).toNatClampNeg ∧ _ = nI (w0 + w1 - cl (tmz sec (nI a).toNatClampNeg) w0 - cl (tmz sec (nI a).toNatClampNeg) w1)
    rw [e]
    exact ⟨ha1, ha2, rfl, rfl⟩
theorem G_fillIn {σ : Sp} {g : Gr} {B : Nat} (h : GR σ g) (hk : KK σ B) (x1 x2 : Int32) : ∃ R, F_X1_fillIn x1 x2 g = some R ∧ R.1 = a_fill x1 x2 (v_lo σ) ∧ (0 ≤ R.1 → GR (o_fill (nx x1) (nx x2) σ) R.2) := by
  obtain ⟨hlo, hb0, hb1, hch, hba, hK, hmk, hst, hse, hfi, hgr, hbr, hpu, hnr⟩ := h
  obtain ⟨k1, k2, k3, k4, k5, k6, k7, k8, k9, k10, k11, k12, k13, k14⟩ := hk
  obtain ⟨R, h1, h2, h3⟩ := p_fillIn hlo k1 k3 k4 x1 x2 (g.2.2.2.2.2.2.2.2.2.2.2.2.2.2.2.2.2.2.2.2.2.2.2.2.2.1)
  rw [F_X1_fillIn, h1]
  simp only [Option.bind_some]
  refine ⟨_, rfl, h2, fun q => ?_⟩
  obtain ⟨a, b⟩ := h3 q
  have e := (b2_no (by decide) (afill_ok (h2 ▸ q)).1).2.2.2.2
  exact ⟨a, hb0, hb1, hch, hba, hK, hmk, hst, hse, (by show R.2.2.2.2.2 = v_fi σ + nI (nx x2); rw [b, hfi, ← e]), hgr, hbr, hpu, hnr⟩
theorem G_grindBy {σ : Sp} {g : Gr} {B : Nat} (h : GR σ g) (hk : KK σ B) (hB : B < 2 ^ 28) (x1 x2 : Int32) : ∃ R, F_X1_grindBy x1 x2 g = some R ∧ R.1 = a_grind x1 x2 (v_lo σ) (v_ch σ) (v_ba σ) (v_st σ 2) ∧ (0 ≤ R.1 → GR (o_grind (nx x1) (nx x2) σ) R.2) := by
  obtain ⟨hlo, hb0, hb1, hch, hba, hK, hmk, hst, hse, hfi, hgr, hbr, hpu, hnr⟩ := h
  obtain ⟨k1, k2, k3, k4, k5, k6, k7, k8, k9, k10, k11, k12, k13, k14⟩ := hk
  obtain ⟨R, h1, h2, h3⟩ := p_grindBy (gr := g.2.2.2.2.2.2.2.2.2.2.2.2.2.2.2.2.2.2.2.2.2.2.2.2.2.2.1) hlo hch hba hb0 hb1 hst hse k1 k2 k3 k4 k5 k7 k8 k10 k11 k12 k13 (by omega) x1 x2
  rw [F_X1_grindBy, h1]
  simp only [Option.bind_some]
  refine ⟨_, rfl, h2, fun q => ?_⟩
  obtain ⟨e1, e2, e3, e4, e5⟩ := b2_no (by decide) (agrind_ok (h2 ▸ q)).1
  obtain ⟨a1, ⟨a2, a3⟩, ⟨a4, a5⟩, a6, a7, a8, a9⟩ := h3 q (nx x1) (nx x2) e1 e4 e5 (by omega)
  refine ⟨a1, ⟨?_, a2, a3, ?_⟩, ⟨?_, a4, a5, ?_⟩, a6, a7, hK, hmk, hst, a8, hfi, ?_, hbr, hpu, hnr⟩
  · show _ = nI (bg0 (v_b0 σ) (nx x1) (nx x2) _).1
    unfold bg0 buC buG
    split <;> exact hb0.1
  · show _ = (bg0 (v_b0 σ) (nx x1) (nx x2) _).2.2.2
    unfold bg0 buC buG
    split <;> exact hb0.2.2.2
  · show _ = nI (bg1 (v_b1 σ) (nx x1) (nx x2) _).1
    unfold bg1 buC buG
    split <;> exact hb1.1
  · show _ = (bg1 (v_b1 σ) (nx x1) (nx x2) _).2.2.2
    unfold bg1 buC buG
    split <;> exact hb1.2.2.2
  · exact a9.trans (by rw [hgr]; rfl)
theorem G_turnDial {σ : Sp} {g : Gr} {B : Nat} (h : GR σ g) (hk : KK σ B) (x1 x2 : Int32) : ∃ R, F_X1_turnDial x1 x2 g = some R ∧ R.1 = a_dial x1 x2 (v_b0 σ) (v_b1 σ) ∧ (0 ≤ R.1 → GR (o_dial (nx x1) (nx x2) σ) R.2) := by
  obtain ⟨hlo, hb0, hb1, hch, hba, hK, hmk, hst, hse, hfi, hgr, hbr, hpu, hnr⟩ := h
  obtain ⟨k1, k2, k3, k4, k5, k6, k7, k8, k9, k10, k11, k12, k13, k14⟩ := hk
  obtain ⟨R, h1, h2, h3⟩ := p_turnDial k11 k12 x1 x2
  rw [F_X1_turnDial, hb0.1, hb1.1, h1]
  simp only [Option.bind_some]
  refine ⟨_, rfl, h2, fun q => ?_⟩
  obtain ⟨e1, e2, e3, e4, e5⟩ := b2_no (by decide) (adial_ok (h2 ▸ q)).1
  obtain ⟨a1, a2⟩ := h3 q (nx x1) (nx x2) e1 e4 e5 (by omega)
  refine ⟨hlo, ⟨?_, ?_, ?_, ?_⟩, ⟨?_, ?_, ?_, ?_⟩, hch, hba, hK, hmk, hst, hse, hfi, hgr, hbr, hpu, hnr⟩
  · refine a1.trans (congrArg nI ?_)
    show _ = (if nx x1 = 0 then (nx x2, (v_b0 σ).2) else v_b0 σ).1
    split <;> rfl
  · refine hb0.2.1.trans (congrArg nI ?_)
    show _ = (if nx x1 = 0 then (nx x2, (v_b0 σ).2) else v_b0 σ).2.1
    split <;> rfl
  · refine hb0.2.2.1.trans ?_
    show _ = (if nx x1 = 0 then (nx x2, (v_b0 σ).2) else v_b0 σ).2.2.1
    split <;> rfl
  · refine hb0.2.2.2.trans ?_
    show _ = (if nx x1 = 0 then (nx x2, (v_b0 σ).2) else v_b0 σ).2.2.2
    split <;> rfl
  · refine a2.trans (congrArg nI ?_)
    show _ = (if nx x1 = 0 then v_b1 σ else (nx x2, (v_b1 σ).2)).1
    split <;> rfl
  · refine hb1.2.1.trans (congrArg nI ?_)
    show _ = (if nx x1 = 0 then v_b1 σ else (nx x2, (v_b1 σ).2)).2.1
    split <;> rfl
  · refine hb1.2.2.1.trans ?_
    show _ = (if nx x1 = 0 then v_b1 σ else (nx x2, (v_b1 σ).2)).2.2.1
    split <;> rfl
  · refine hb1.2.2.2.trans ?_
    show _ = (if nx x1 = 0 then v_b1 σ else (nx x2, (v_b1 σ).2)).2.2.2
    split <;> rfl
theorem G_letPass {σ : Sp} {g : Gr} {B : Nat} (h : GR σ g) (hk : KK σ B) (hB : B < 2 ^ 28) (x1 : Int32) : ∃ R, F_X1_letPass x1 g = some R ∧ R.1 = a_rest x1 (v_b0 σ).2.1 (v_b1 σ).2.1 (v_se σ) ∧ (0 ≤ R.1 → GR (o_rest (nx x1) σ) R.2) := by
  obtain ⟨hlo, hb0, hb1, hch, hba, hK, hmk, hst, hse, hfi, hgr, hbr, hpu, hnr⟩ := h
  obtain ⟨k1, k2, k3, k4, k5, k6, k7, k8, k9, k10, k11, k12, k13, k14⟩ := hk
  obtain ⟨R, h1, h2, h3⟩ := p_letPass k11.2.2 k12.2.2 (show v_se σ < 2 ^ 28 by omega) x1
  rw [F_X1_letPass, hb0.2.1, hb1.2.1, hse, h1]
  simp only [Option.bind_some]
  refine ⟨_, rfl, h2, fun q => ?_⟩
  obtain ⟨e1, e2, e3, e4⟩ := arest_ok (h2 ▸ q)
  obtain ⟨a1, a2, a3⟩ := h3 q (nx x1) e3 (by omega)
  exact ⟨hlo, ⟨hb0.1, a1, hb0.2.2.1, hb0.2.2.2⟩, ⟨hb1.1, a2, hb1.2.2.1, hb1.2.2.2⟩, hch, hba, hK, hmk, hst, a3, hfi, hgr, hbr, hpu, hnr⟩
theorem G_makeShot {σ : Sp} {g : Gr} {B : Nat} (h : GR σ g) (hk : KK σ B) (hB : B < 2 ^ 28) : ∃ R, F_X1_makeShot g = some R ∧ R.1 = a_shot (v_st σ) (v_ba σ) ∧ (0 ≤ R.1 → tot (v_ba σ) ≠ 0 ∧ GR (o_shot σ) R.2) := by
  obtain ⟨hlo, hb0, hb1, hch, hba, hK, hmk, hst, hse, hfi, hgr, hbr, hpu, hnr⟩ := h
  obtain ⟨k1, k2, k3, k4, k5, k6, k7, k8, k9, k10, k11, k12, k13, k14⟩ := hk
  obtain ⟨R, h1, h2, h3⟩ := p_makeShot hba hb0 hb1 hK hst hse k8 k10 k11 k12 k13 (by omega) (g.2.2.2.2.2.2.2.2.2.2.2.2.2.2.2.2.2.2.2.2.2.2.1) (g.2.2.2.2.2.2.2.2.2.2.2.2.2.2.2.2.2.2.2.2.2.2.2.2.2.2.2.1) (g.2.2.2.2.2.2.2.2.2.2.2.2.2.2.2.2.2.2.2.2.2.2.2.2.2.2.2.2.2)
  rw [F_X1_makeShot, h1]
  simp only [Option.bind_some]
  refine ⟨_, rfl, h2, fun q => ?_⟩
  obtain ⟨a0, ⟨a1, a2, a3⟩, ⟨a4, a5, a6⟩, a7, a8, a9, a10, a11, a12, a13⟩ := h3 q
  rw [hmk] at a9
  refine ⟨a0, hlo, ⟨a1, a2, ?_, a3⟩, ⟨a4, a5, ?_, a6⟩, hch, ⟨a7, a8, fun k z => absurd z (Nat.not_lt_zero k)⟩, a9, ?_, hst, a11, hfi, hgr, ?_, hpu, ?_⟩
  · show _ = (bs0 (v_st σ) (timeS (v_st σ) (v_ba σ)) _ _ (v_b0 σ)).2.2.1
    unfold bs0 buC
    split
    · exact hb0.2.2.1.trans (buJ_g _ _ _).symm
    · exact hb0.2.2.1
  · show _ = (bs1 (v_st σ) (timeS (v_st σ) (v_ba σ)) _ _ (v_b1 σ)).2.2.1
    unfold bs1 buC
    split
    · exact hb1.2.2.1
    · exact hb1.2.2.1.trans (buJ_g _ _ _).symm
  · exact a10.trans (by rw [hmk]; rfl)
  · exact a12.trans (by rw [hbr]; rfl)
  · exact a13.trans (by rw [hnr]; rfl)
theorem G_emptyChute {σ : Sp} {g : Gr} (h : GR σ g) : ∃ R, F_X1_emptyChute g = some R ∧ R.1 = nI (tot (v_ch σ)) ∧ GR (o_purge σ) R.2 := by
  obtain ⟨hlo, hb0, hb1, hch, hba, hK, hmk, hst, hse, hfi, hgr, hbr, hpu, hnr⟩ := h
  rw [F_X1_emptyChute, hch.2.1, p_emptyChute]
  simp only [Option.bind_some]
  exact ⟨_, rfl, rfl, hlo, hb0, hb1, rowR_nil _ _, hba, hK, hmk, hst, hse, hfi, hgr, hbr, (by show _ + nI (tot (v_ch σ)) = _; rw [hpu]; rfl), hnr⟩
noncomputable def a_corr (x1 : Int32) (K : List Sh) (b0 b1 : Bu) (g : Nat) : Int32 := by
  classical
  exact if ¬ (x1 = 0 ∨ x1 = 1) then cIA else if K.length = 0 then cNP else nI (cor (bsel b0 b1 (nx x1)).1 (sk0 K 0).2.1 g)
theorem G_correct {σ : Sp} {g : Gr} {B : Nat} (h : GR σ g) (hk : KK σ B) (x1 : Int32) : ∃ R, F_X1_correctByLatest x1 g = some R ∧ R.1 = a_corr x1 (v_K σ) (v_b0 σ) (v_b1 σ) (v_st σ 0) ∧ (0 ≤ R.1 → nx x1 < 2 ∧ GR (o_corr (nx x1) σ) R.2) := by
  obtain ⟨hlo, hb0, hb1, hch, hba, hK, hmk, hst, hse, hfi, hgr, hbr, hpu, hnr⟩ := h
  obtain ⟨k1, k2, k3, k4, k5, k6, k7, k8, k9, k10, k11, k12, k13, k14⟩ := hk
  unfold a_corr
  rw [F_X1_correctByLatest, f_X1_correctByLatest]
  by_cases c1 : x1 = 0 ∨ x1 = 1
  · obtain ⟨b, hb, rfl⟩ := v01 c1
    rw [is01_t hb, if_neg (not_not_intro c1)]
    simp only [Option.bind_some]
    rw [if_neg (by decide)]
    have h12 := hK.2.1
    by_cases c2 : (v_K σ).length = 0
    · rw [if_neg (by rw [hK.1, fa_L]; exact nI_ge (by omega) (by decide)), if_pos c2]
      simp only [Option.bind_some]
      exact ⟨_, rfl, rfl, (by first | exact ngA | exact ngB | exact ngC | exact ngD)⟩
    · have hl := (hK.2.2.2 0 (by omega)).2.1
      have ht := hK.2.2.1 0 (by omega)
      have e0 : g.2.2.2.2.2.2.2.2.2.2.2.2.2.2.2.2.2.2.2.2.2.2.2.1 (0 : Int32).toNatClampNeg = nI (v_st σ 0) := hst 0 (by decide)
      have e1 : g.2.2.2.2.2.2.2.2.2.2.2.2.2.2.2.2.2.2.2.2.1 (1 : Int32).toNatClampNeg = nI (sk0 (v_K σ) 0).2.1 := hl
      rw [if_pos (by rw [hK.1, fa_L]; exact nI_le (by omega) (by omega)), if_neg c2, f_X6_latestTime, e0, e1, show nx (nI b) = b from v_cl (by omega)]
      obtain ⟨s1, s2, s3⟩ := k13
      obtain ⟨d0, d1, d2, d3⟩ := hb0
      obtain ⟨z0, z1, z2, z3⟩ := hb1
      rcases (show b = 0 ∨ b = 1 by omega) with rfl | rfl
      · rw [if_pos nI_0, d0]
        simp only [Option.bind_some]
        rw [p_correct k11.2.1 ht s1 s2]
        simp only [Option.bind_some]
        exact ⟨_, rfl, rfl, fun _ => ⟨by decide, hlo, ⟨rfl, d1, d2, (by rw [d3]; rfl)⟩, ⟨z0, z1, z2, z3⟩, hch, hba, hK, hmk, hst, hse, hfi, hgr, hbr, hpu, hnr⟩⟩
      · rw [if_neg (by decide), z0]
        simp only [Option.bind_some]
        rw [p_correct k12.2.1 ht s1 s2]
        simp only [Option.bind_some]
        exact ⟨_, rfl, rfl, fun _ => ⟨by decide, hlo, ⟨d0, d1, d2, d3⟩, ⟨rfl, z1, z2, (by rw [z3]; rfl)⟩, hch, hba, hK, hmk, hst, hse, hfi, hgr, hbr, hpu, hnr⟩⟩
  · rw [is01_f c1, if_pos c1]
    simp only [Option.bind_some]
    rw [if_pos trivial]
    simp only [Option.bind_some]
    exact ⟨_, rfl, rfl, (by first | exact ngA | exact ngB | exact ngC | exact ngD)⟩
end
section
/-! settings; copying; what is kept -/
def lsN (i : Nat) : Nat := if i = 0 then 100 else if i = 3 ∨ i = 4 then 30 else 0
def msN (i : Nat) : Nat := if i = 0 then 600 else if i = 1 then 200 else if i = 2 then 100 else if i = 5 then 1 else 300
theorem six {i : Nat} (h : i < 6) : i = 0 ∨ i = 1 ∨ i = 2 ∨ i = 3 ∨ i = 4 ∨ i = 5 := by omega
theorem tbL_N {i : Nat} (h : i < 6) : tbL i = nI (lsN i) := by
  rcases six h with rfl | rfl | rfl | rfl | rfl | rfl <;> rfl
theorem tbM_N {i : Nat} (h : i < 6) : tbM i = nI (msN i) := by
  rcases six h with rfl | rfl | rfl | rfl | rfl | rfl <;> rfl
theorem msN_le (i : Nat) : msN i ≤ 600 := by
  unfold msN
  repeat' split
  all_goals omega
theorem lsN_le (i : Nat) : lsN i ≤ 100 := by
  unfold lsN
  split
  · omega
  · split <;> omega
noncomputable def a_set (x1 x2 : Int32) (v : Nat → Nat) : Int32 := by
  classical
  exact if x1 < 0 ∨ 6 ≤ nx x1 then cIA else if x2 < nI (lsN (nx x1)) ∨ nI (msN (nx x1)) < x2 then cIA else nI (v (nx x1))
theorem aset_ok {x1 x2 : Int32} {v : Nat → Nat} (h : 0 ≤ a_set x1 x2 v) : nx x1 < 6 ∧ x1 = nI (nx x1) ∧ lsN (nx x1) ≤ nx x2 ∧ nx x2 ≤ msN (nx x1) ∧ x2 = nI (nx x2) ∧ a_set x1 x2 v = nI (v (nx x1)) := by
  unfold a_set at h ⊢
  by_cases c1 : x1 < 0 ∨ 6 ≤ nx x1
  · rw [if_pos c1] at h; exact absurd h (by decide)
  · rw [if_neg c1] at h ⊢
    by_cases c2 : x2 < nI (lsN (nx x1)) ∨ nI (msN (nx x1)) < x2
    · rw [if_pos c2] at h; exact absurd h (by decide)
    · rw [if_neg c2]
      obtain ⟨j, hj, rfl⟩ := nI_of (fun q => c1 (Or.inl q))
      have e1 : ¬ x2 < 0 := fun q => c2 (Or.inl (by
        have : (0 : Int32) ≤ nI (lsN (nx (nI j))) := nI_pos' (Nat.lt_of_le_of_lt (lsN_le _) (by decide))
        rw [Int32.lt_iff_toInt_lt] at q ⊢
        rw [Int32.le_iff_toInt_le] at this
        omega))
      obtain ⟨a, ha, rfl⟩ := nI_of e1
      have hm := msN_le (nx (nI j))
      have e2 : nx (nI j) = j := v_cl hj
      have e3 : nx (nI a) = a := v_cl ha
      rw [e2] at c1 c2 hm ⊢
      rw [e3]
      refine ⟨Nat.not_le.mp (fun q => c1 (Or.inr q)), rfl, ?_, ?_, rfl, rfl⟩
      · exact Nat.not_lt.mp (fun q => c2 (Or.inl (nI_lt q (Nat.lt_of_le_of_lt (lsN_le _) (by decide)))))
      · exact Nat.not_lt.mp (fun q => c2 (Or.inr (nI_lt q ha)))
theorem G_changeSetting {σ : Sp} {g : Gr} (h : GR σ g) (x1 x2 : Int32) : ∃ R, F_X1_changeSetting x1 x2 g = some R ∧ R.1 = a_set x1 x2 (v_st σ) ∧ (0 ≤ R.1 → GR (o_set (nx x1) (nx x2) σ) R.2) := by
  obtain ⟨hlo, hb0, hb1, hch, hba, hK, hmk, hst, hse, hfi, hgr, hbr, hpu, hnr⟩ := h
  rw [F_X1_changeSetting, f_X1_changeSetting]
  have hz := fun q => aset_ok (x1 := x1) (x2 := x2) (v := v_st σ) q
  revert hz
  unfold a_set
  by_cases c1 : x1 < 0 ∨ 6 ≤ nx x1
  · intro _
    rw [if_pos c1]
    have : (if x1 < 0 then some ((-1000001 : Int32), g.2.2.2.2.2.2.2.2.2.2.2.2.2.2.2.2.2.2.2.2.2.2.2.1) else (if (6 : Int32) ≤ x1 then some ((-1000001 : Int32), g.2.2.2.2.2.2.2.2.2.2.2.2.2.2.2.2.2.2.2.2.2.2.2.1) else none)) = some ((-1000001 : Int32), g.2.2.2.2.2.2.2.2.2.2.2.2.2.2.2.2.2.2.2.2.2.2.2.1) := by
      by_cases c2 : x1 < 0
      · rw [if_pos c2]
      · obtain ⟨j, hj, rfl⟩ := nI_of c2
        rw [if_neg c2, if_pos]
        rcases c1 with c1 | c1
        · exact absurd c1 c2
        · rw [show nx (nI j) = j from v_cl hj] at c1
          rw [fa_L]
          exact nI_le c1 hj
    by_cases c2 : x1 < 0
    · rw [if_pos c2]
      simp only [Option.bind_some]
      exact ⟨_, rfl, rfl, (by first | exact ngA | exact ngB | exact ngC | exact ngD)⟩
    · rw [if_neg c2] at this ⊢
      by_cases c3 : (6 : Int32) ≤ x1
      · rw [if_pos c3]
        simp only [Option.bind_some]
        exact ⟨_, rfl, rfl, (by first | exact ngA | exact ngB | exact ngC | exact ngD)⟩
      · rw [if_neg c3] at this
        cases this
  · rw [if_neg c1]
    intro hz
    obtain ⟨j, hj, rfl⟩ := nI_of (fun q => c1 (Or.inl q))
    have ej : nx (nI j) = j := v_cl hj
    rw [ej] at c1 hz ⊢
    have hj6 : j < 6 := Nat.not_le.mp (fun q => c1 (Or.inr q))
    have hg := nI_in (c := j) (N := 6) hj6 (by decide)
    rw [if_neg (nI_pos hj), if_neg (by rw [fa_L]; exact nI_ge hj6 (by decide))]
    simp only [gd_t hg, lt_v]
    simp only [v_cl hj, tbL_N hj6, tbM_N hj6]
    by_cases c2 : x2 < nI (lsN j)
    · rw [if_pos c2, if_pos (Or.inl c2)]
      simp only [Option.bind_some]
      exact ⟨_, rfl, rfl, (by first | exact ngA | exact ngB | exact ngC | exact ngD)⟩
    · rw [if_neg c2]
      by_cases c3 : nI (msN j) < x2
      · rw [if_neg (Int32.not_le.mpr c3), if_pos (Or.inr c3)]
        simp only [Option.bind_some]
        exact ⟨_, rfl, rfl, (by first | exact ngA | exact ngB | exact ngC | exact ngD)⟩
      · rw [if_pos (Int32.not_lt.mp c3), if_neg (fun q => by rcases q with q | q; exact c2 q; exact c3 q)]
        simp only [Option.bind_some, lt_v]
        refine ⟨_, rfl, hst j hj6, fun q => ⟨hlo, hb0, hb1, hch, hba, hK, hmk, fun k hk => ?_, hse, hfi, hgr, hbr, hpu, hnr⟩⟩
        show upd _ j x2 k = nI (updN (v_st σ) j (nx x2) k)
        unfold updN
        by_cases e : k = j
        · subst e
          rw [pk_us, if_pos rfl]
          have hx : ¬ x2 < 0 := fun z => c2 (by
            have : (0 : Int32) ≤ nI (lsN k) := nI_pos' (Nat.lt_of_le_of_lt (lsN_le _) (by decide))
            rw [Int32.lt_iff_toInt_lt] at z ⊢
            rw [Int32.le_iff_toInt_le] at this
            omega)
          obtain ⟨a, ha, rfl⟩ := nI_of hx
          rw [show nx (nI a) = a from v_cl ha]
        · rw [pk_un e, if_neg e]
          exact hst k hk
theorem G_copyFrom {σ : Sp} {go : Gr} {B : Nat} (h : GR σ go) (hk : KK σ B) (g : Gr) : ∃ R, F_X1_copyFrom g go = some R ∧ GR σ R := by
  obtain ⟨hlo, hb0, hb1, hch, hba, hK, hmk, hst, hse, hfi, hgr, hbr, hpu, hnr⟩ := h
  obtain ⟨k1, k2, k3, k4, k5, k6, k7, k8, k9, k10, k11, k12, k13, k14⟩ := hk
  have l1 := len_tot k5
  have l2 := len_tot k8
  obtain ⟨R1, a1, b1⟩ := p_copyRow (N := 6) (A := g.1) (M := g.2.1) (n := g.2.2.1) (t := g.2.2.2.1) hlo k4 (by decide)
  obtain ⟨R2, a2, b2⟩ := p_copyRow (N := 106) (A := g.2.2.2.2.2.2.2.2.2.2.2.2.1) (M := g.2.2.2.2.2.2.2.2.2.2.2.2.2.1) (n := g.2.2.2.2.2.2.2.2.2.2.2.2.2.2.1) (t := g.2.2.2.2.2.2.2.2.2.2.2.2.2.2.2.1) hch (by omega) (by decide)
  obtain ⟨R3, a3, b3⟩ := p_copyRow (N := 400) (A := g.2.2.2.2.2.2.2.2.2.2.2.2.2.2.2.2.1) (M := g.2.2.2.2.2.2.2.2.2.2.2.2.2.2.2.2.2.1) (n := g.2.2.2.2.2.2.2.2.2.2.2.2.2.2.2.2.2.2.1) (t := g.2.2.2.2.2.2.2.2.2.2.2.2.2.2.2.2.2.2.2.1) hba (by omega) (by decide)
  obtain ⟨R4, a4, b4, b5⟩ := p_copyShots (f := g.2.2.2.2.2.2.2.2.2.2.2.2.2.2.2.2.2.2.2.2.1) hK (g.2.2.2.2.2.2.2.2.2.2.2.2.2.2.2.2.2.2.2.2.2.1) (g.2.2.2.2.2.2.2.2.2.2.2.2.2.2.2.2.2.2.2.2.2.2.1) (go.2.2.2.2.2.2.2.2.2.2.2.2.2.2.2.2.2.2.2.2.2.2.1)
  have hg : ¬ (0 : Int32) < 0 ∧ ¬ (0 : Int32) < 0 ∧ ¬ (6 : Int32) < 0 ∧ (0 : Int32).toNatClampNeg + (6 : Int32).toNatClampNeg ≤ 6 ∧ (0 : Int32).toNatClampNeg + (6 : Int32).toNatClampNeg ≤ 6 := by decide
  rw [F_X1_copyFrom, f_X1_copyFrom, f_X3_copyFrom, a1]
  simp only [Option.bind_some, f_X0_copyFrom]
  rw [a2]
  simp only [Option.bind_some]
  rw [a3]
  simp only [Option.bind_some]
  rw [a4]
  simp only [gd_t hg, lt_v]
  simp only [Option.bind_some]
  refine ⟨_, rfl, b1, hb0, hb1, b2, b3, b4, b5.trans hmk, fun k hk => ?_, hse, hfi, hgr, hbr, hpu, hnr⟩
  show va_cpy _ _ 0 0 6 k = _
  rw [pk_cpy_in (Nat.zero_le _) (by omega), Nat.zero_add, Nat.sub_zero]
  exact hst k hk
theorem G_time {σ : Sp} {g : Gr} {B : Nat} (h : GR σ g) (hk : KK σ B) : F_X1_timeOfBasket g = some (a_shot (v_st σ) (v_ba σ)) := by
  obtain ⟨hlo, hb0, hb1, hch, hba, hK, hmk, hst, hse, hfi, hgr, hbr, hpu, hnr⟩ := h
  obtain ⟨k1, k2, k3, k4, k5, k6, k7, k8, k9, k10, k11, k12, k13, k14⟩ := hk
  rw [F_X1_timeOfBasket, p_time hst k13 hba k8 k10]
  rfl
end
section
/-! what is kept by the changes -/
theorem mkK_nil : mkK [] := fun p hp => by cases hp
theorem okR_nil : okR [] := fun p hp => by cases hp
theorem mkK_app {L K : List (Nat × Nat)} (h : mkK L) (h2 : mkK K) : mkK (L ++ K) := fun q hq => by
  rcases List.mem_append.mp hq with hq | hq
  · exact h q hq
  · exact h2 q hq
theorem pour_ok {k a : Nat} {L : List (Nat × Nat)} (h : okR L) (hk : k < 2) (ha : 1 ≤ a) (hT : tot L + a ≤ 4000) : okR (pour k a L) := by
  unfold pour
  split
  · rename_i q
    rcases Classical.em (L = []) with rfl | hL
    · rw [ends_nil] at q; cases q
    · obtain ⟨K, x, rfl⟩ := snoc_of L hL
      rw [List.dropLast_concat, List.getLastD_concat]
      rw [tot_app] at hT
      simp only [tot] at hT
      refine okR_app (fun q hq => h q (List.mem_append_left _ hq)) (okR_cc ⟨?_, ?_, ?_⟩ okR_nil)
      · show 1 ≤ x.1 + a; omega
      · show x.1 + a ≤ 4000; omega
      · show k < 4096; omega
  · refine okR_app h (okR_cc ⟨ha, ?_, ?_⟩ okR_nil)
    · show a ≤ 4000; omega
    · show k < 4096; omega
theorem pour_mk {k a : Nat} {L : List (Nat × Nat)} (h : ∀ p ∈ L, p.2 < 2) (hk : k < 2) : ∀ p ∈ pour k a L, p.2 < 2 := by
  unfold pour
  split
  · intro p hp
    rcases List.mem_append.mp hp with hp | hp
    · exact h p (List.dropLast_subset L hp)
    · rw [List.mem_singleton] at hp
      subst hp
      exact hk
  · intro p hp
    rcases List.mem_append.mp hp with hp | hp
    · exact h p hp
    · rw [List.mem_singleton] at hp
      subst hp
      exact hk
theorem pour_len {k a : Nat} {L : List (Nat × Nat)} (h : L.length ≤ 6) (h2 : L.length < 6 ∨ ends k L = true) : (pour k a L).length ≤ 6 := by
  unfold pour
  split
  · rename_i q
    rcases Classical.em (L = []) with rfl | hL
    · rw [ends_nil] at q; cases q
    · obtain ⟨K, x, rfl⟩ := snoc_of L hL
      rw [List.dropLast_concat]
      rw [List.length_append] at h ⊢
      exact h
  · rename_i q
    rw [List.length_append]
    show L.length + 1 ≤ 6
    rcases h2 with z | z
    · omega
    · exact absurd z q
theorem KK_up {σ : Sp} {B C : Nat} (h : KK σ B) (hBC : B ≤ C) : KK σ C := by
  obtain ⟨k1, k2, k3, k4, k5, k6, k7, k8, k9, k10, k11, k12, k13, k14⟩ := h
  exact ⟨k1, k2, k3, k4, k5, k6, k7, k8, k9, k10, k11, k12, k13, Nat.le_trans k14 hBC⟩
theorem K_fill {σ : Sp} {B : Nat} {x1 x2 : Int32} (hk : KK σ B) (h : 0 ≤ a_fill x1 x2 (v_lo σ)) : KK (o_fill (nx x1) (nx x2) σ) B := by
  obtain ⟨k1, k2, k3, k4, k5, k6, k7, k8, k9, k10, k11, k12, k13, k14⟩ := hk
  obtain ⟨c1, c2, -⟩ := afill_ok h
  obtain ⟨e1, e2, e3, e4, e5⟩ := b2_no (by decide) c1
  have c3 : tot (v_lo σ) + nx x2 ≤ 4000 := Nat.not_lt.mp (fun q => c2 (Or.inl q))
  have c4 : (v_lo σ).length < 6 ∨ ends (nx x1) (v_lo σ) = true := by
    rcases Nat.lt_or_ge (v_lo σ).length 6 with q | q
    · exact Or.inl q
    · refine Or.inr ?_
      cases z : ends (nx x1) (v_lo σ) with
      | true => rfl
      | false => exact absurd (Or.inr ⟨by omega, z⟩) c2
  exact ⟨pour_ok k1 e1 e2 c3, pour_mk k2 e1, (by show tot (pour _ _ _) ≤ _; rw [pour_tot]; exact c3), pour_len k4 c4, k5, k6, k7, k8, k9, k10, k11, k12, k13, k14⟩
theorem tk_mk {L : List (Nat × Nat)} (l : Nat) (h : mkK L) : mkK (tk l L).1 ∧ mkK (tk l L).2 := tk_mem (P := fun m => 40 ≤ m ∧ m < 2404) l h
theorem bsel_K {b0 b1 : Bu} (b : Nat) (h0 : buK b0) (h1 : buK b1) : buK (bsel b0 b1 b) := by
  unfold bsel
  split
  · exact h0
  · exact h1
theorem buC_K {b : Bu} (n : Nat) (h : buK b) : buK (buC b n) := ⟨h.1, h.2.1, Nat.le_trans (cl_le n b.2.1) h.2.2⟩
theorem buG_K {b : Bu} (a : Nat) (h : buK b) : buK (buG b a) := ⟨h.1, h.2.1, buG_w b a h.2.2⟩
theorem buX_K {b : Bu} (t g : Nat) (h : buK b) : buK (buX b t g) := ⟨(by show 1 ≤ max 1 _; omega), (by show max 1 (min 60 _) ≤ 60; omega), h.2.2⟩
theorem buJ_K {b : Bu} (v : Nat → Nat) (t : Nat) (h : buK b) : buK (buJ v t b) := by
  unfold buJ
  split
  · exact h
  · split
    · exact buX_K _ _ h
    · exact h
theorem K_grind {σ : Sp} {B : Nat} {x1 x2 : Int32} (hk : KK σ B) (h : 0 ≤ a_grind x1 x2 (v_lo σ) (v_ch σ) (v_ba σ) (v_st σ 2)) : KK (o_grind (nx x1) (nx x2) σ) (B + 3000) := by
  obtain ⟨k1, k2, k3, k4, k5, k6, k7, k8, k9, k10, k11, k12, k13, k14⟩ := hk
  obtain ⟨c1, c2, c3, -⟩ := agrind_ok h
  obtain ⟨e1, e2, e3, e4, e5⟩ := b2_no (by decide) c1
  have hd := (bsel_K (nx x1) k11 k12).2.1
  have o1 := g_in_ok (w := (bsel (v_b0 σ) (v_b1 σ) (nx x1)).2.1) (a := nx x2) k1 k2 k5 hd e1
  have o2 := g_in_mk (w := (bsel (v_b0 σ) (v_b1 σ) (nx x1)).2.1) (a := nx x2) k2 k6 hd e1
  have t1 := g_in_tot (ch := v_ch σ) (d := (bsel (v_b0 σ) (v_b1 σ) (nx x1)).1) (w := (bsel (v_b0 σ) (v_b1 σ) (nx x1)).2.1) (b := nx x1) c2
  have t2 := tk_tot (g_in (v_lo σ) (v_ch σ) (bsel (v_b0 σ) (v_b1 σ) (nx x1)).1 (bsel (v_b0 σ) (v_b1 σ) (nx x1)).2.1 (nx x1) (nx x2)) (g_out (v_ch σ) (nx x2) (v_st σ 2))
  have t3 := tk_tot (v_lo σ) (nx x2)
  have hc := k13.2.2.2.1
  have hg : g_out (v_ch σ) (nx x2) (v_st σ 2) = tot (v_ch σ) + nx x2 - v_st σ 2 := rfl
  refine ⟨(tk_ok _ k1).2, (tk_mem (P := fun m => m < 2) _ k2).2, ?_, Nat.le_trans (tk_len _ _).2 k4, (tk_ok _ o1).2, (tk_mk _ o2).2, ?_, okR_app k8 (tk_ok _ o1).1, mkK_app k9 (tk_mk _ o2).1, ?_, ?_, ?_, k13, ?_⟩
  · show tot (tk _ _).2 ≤ 4000
    rw [t3.2]; omega
  · show tot (tk _ _).2 ≤ 100
    rw [t2.2, t1]; omega
  · show tot (_ ++ (tk _ _).1) ≤ 400
    rw [tot_app, t2.1, t1]; omega
  · show buK (bg0 _ _ _ _)
    unfold bg0
    split
    · exact buC_K _ (buG_K _ k11)
    · exact buC_K _ k11
  · show buK (bg1 _ _ _ _)
    unfold bg1
    split
    · exact buC_K _ k12
    · exact buC_K _ (buG_K _ k12)
  · show v_se σ + (nx x2 + 9) / 10 ≤ B + 3000
    omega
theorem K_dial {σ : Sp} {B : Nat} {x1 x2 : Int32} (hk : KK σ B) (h : 0 ≤ a_dial x1 x2 (v_b0 σ) (v_b1 σ)) : KK (o_dial (nx x1) (nx x2) σ) B := by
  obtain ⟨k1, k2, k3, k4, k5, k6, k7, k8, k9, k10, k11, k12, k13, k14⟩ := hk
  obtain ⟨e1, e2, e3, e4, e5⟩ := b2_no (by decide) (adial_ok h).1
  refine ⟨k1, k2, k3, k4, k5, k6, k7, k8, k9, k10, ?_, ?_, k13, k14⟩
  · show buK (if nx x1 = 0 then (nx x2, (v_b0 σ).2) else v_b0 σ)
    split
    · exact ⟨e2, e3, k11.2.2⟩
    · exact k11
  · show buK (if nx x1 = 0 then v_b1 σ else (nx x2, (v_b1 σ).2))
    split
    · exact k12
    · exact ⟨e2, e3, k12.2.2⟩
theorem K_rest {σ : Sp} {B : Nat} {x1 : Int32} (hk : KK σ B) (h : 0 ≤ a_rest x1 (v_b0 σ).2.1 (v_b1 σ).2.1 (v_se σ)) : KK (o_rest (nx x1) σ) (B + 3000) := by
  obtain ⟨k1, k2, k3, k4, k5, k6, k7, k8, k9, k10, k11, k12, k13, k14⟩ := hk
  obtain ⟨e1, e2, e3, -⟩ := arest_ok h
  exact ⟨k1, k2, k3, k4, k5, k6, k7, k8, k9, k10, buC_K _ k11, buC_K _ k12, k13, (by show v_se σ + nx x1 ≤ B + 3000; omega)⟩
theorem K_shot {σ : Sp} {B : Nat} (hk : KK σ B) : KK (o_shot σ) (B + 3000) := by
  obtain ⟨k1, k2, k3, k4, k5, k6, k7, k8, k9, k10, k11, k12, k13, k14⟩ := hk
  have ht := timeS_le k13 (v_ba σ)
  refine ⟨k1, k2, k3, k4, k5, k6, k7, okR_nil, mkK_nil, Nat.zero_le _, ?_, ?_, k13, ?_⟩
  · show buK (bs0 _ _ _ _ _)
    unfold bs0
    split
    · exact buC_K _ (buJ_K _ _ k11)
    · exact buC_K _ k11
  · show buK (bs1 _ _ _ _ _)
    unfold bs1
    split
    · exact buC_K _ k12
    · exact buC_K _ (buJ_K _ _ k12)
  · show v_se σ + timeS (v_st σ) (v_ba σ) / 10 ≤ B + 3000
    omega
theorem K_purge {σ : Sp} {B : Nat} (hk : KK σ B) : KK (o_purge σ) B := by
  obtain ⟨k1, k2, k3, k4, k5, k6, k7, k8, k9, k10, k11, k12, k13, k14⟩ := hk
  exact ⟨k1, k2, k3, k4, okR_nil, mkK_nil, Nat.zero_le _, k8, k9, k10, k11, k12, k13, k14⟩
theorem K_corr {σ : Sp} {B : Nat} (b : Nat) (hk : KK σ B) : KK (o_corr b σ) B := by
  obtain ⟨k1, k2, k3, k4, k5, k6, k7, k8, k9, k10, k11, k12, k13, k14⟩ := hk
  refine ⟨k1, k2, k3, k4, k5, k6, k7, k8, k9, k10, ?_, ?_, k13, k14⟩
  · show buK (if b = 0 then _ else _)
    split
    · exact buX_K _ _ k11
    · exact k11
  · show buK (if b = 0 then _ else _)
    split
    · exact k12
    · exact buX_K _ _ k12
theorem K_set {σ : Sp} {B : Nat} {x1 x2 : Int32} (hk : KK σ B) (h : 0 ≤ a_set x1 x2 (v_st σ)) : KK (o_set (nx x1) (nx x2) σ) B := by
  obtain ⟨k1, k2, k3, k4, k5, k6, k7, k8, k9, k10, k11, k12, k13, k14⟩ := hk
  obtain ⟨e1, -, e3, e4, -⟩ := aset_ok h
  refine ⟨k1, k2, k3, k4, k5, k6, k7, k8, k9, k10, k11, k12, ?_, k14⟩
  show stK (updN (v_st σ) (nx x1) (nx x2))
  obtain ⟨s1, s2, s3, s4, s5, s6, s7, s8, s9⟩ := k13
  generalize nx x2 = a at e3 e4
  generalize nx x1 = i at e1 e3 e4
  unfold stK updN
  rcases six e1 with rfl | rfl | rfl | rfl | rfl | rfl <;> (unfold lsN at e3; unfold msN at e4; simp at e3 e4 ⊢; omega)
end
section
/-! the object's answers and changes out of its state -/
theorem v_le {x : Int32} {n : Nat} (h1 : ¬ x < 0) (h2 : ¬ nI n < x) : ∃ j : Nat, j ≤ n ∧ x = nI j := by
  obtain ⟨j, hj, rfl⟩ := nI_of h1
  exact ⟨j, Nat.not_lt.mp (fun q => h2 (nI_lt q hj)), rfl⟩
theorem rg_t {β : Type} {x n : Int32} {a b : β} (h : x < 0 ∨ n < x) : (if x < 0 then a else if x ≤ n then b else a) = a := by
  by_cases c : x < 0
  · rw [if_pos c]
  · rw [if_neg c, if_neg (Int32.not_le.mpr (by rcases h with h | h; exact absurd h c; exact h))]
theorem rg_f {β : Type} {x n : Int32} {a b : β} (h : ¬ (x < 0 ∨ n < x)) : (if x < 0 then a else if x ≤ n then b else a) = b := by
  rw [if_neg (fun q => h (Or.inl q)), if_pos (Int32.not_lt.mp (fun q => h (Or.inr q)))]
theorem n10 : ¬ (1 : Int32) = 0 := by decide
/-- what a burr tells -/
def tlB (b : Bu) (j : Nat) : Int32 := if j = 0 then nI b.1 else if j = 1 then nI b.2.1 else if j = 2 then nI (gp b.1 b.2.1) else if j = 3 then b.2.2.1 else b.2.2.2
theorem p_tellB {b : Bu} {d w g c : Int32} (h : buR b d w g c) (k : buK b) {j : Nat} (hj : j ≤ 4) : f_X0_tell (nI j) d w g c = some (tlB b j) := by
  obtain ⟨rfl, rfl, rfl, rfl⟩ := h
  rcases (show j = 0 ∨ j = 1 ∨ j = 2 ∨ j = 3 ∨ j = 4 by omega) with rfl | rfl | rfl | rfl | rfl
  · rfl
  · rfl
  · have e := p_gap (d := b.1) (w := b.2.1) (by have := k.2.1; omega) (by have := k.2.2; omega)
    rw [f_X0_tell, if_neg (by decide), if_neg (by decide), if_pos (by decide), e]
    rfl
  · rfl
  · rfl
def A_burrOf (x1 x2 : Int32) (σ : Sp) : Int32 := if x1 = 0 ∨ x1 = 1 then (if x2 < 0 ∨ (4 : Int32) < x2 then cIA else tlB (if x1 = 0 then v_b0 σ else v_b1 σ) (nx x2)) else cIA
theorem p_burrOf' {σ : Sp} {B nw : Nat} {d0 w0 g0 c0 d1 w1 g1 c1 : Int32} (h0 : buR (v_b0 σ) d0 w0 g0 c0) (h1 : buR (v_b1 σ) d1 w1 g1 c1) (hk : KK σ B) (x1 x2 : Int32) : f_X7_burrOf x1 x2 nw d0 w0 g0 c0 d1 w1 g1 c1 = some (A_burrOf x1 x2 σ) := by
  have k11 := hk.2.2.2.2.2.2.2.2.2.2.1
  have k12 := hk.2.2.2.2.2.2.2.2.2.2.2.1
  rw [f_X7_burrOf, A_burrOf]
  by_cases c1 : x1 = 0 ∨ x1 = 1
  · rw [if_pos c1]
    obtain ⟨b, hb, rfl⟩ := v01 c1
    rw [is01_t hb, Option.bind_some, if_neg n10]
    by_cases c2 : x2 < 0 ∨ (4 : Int32) < x2
    · rw [rg_t c2, if_pos c2]
    · rw [rg_f c2, if_neg c2]
      obtain ⟨j, hj, rfl⟩ := v_le (n := 4) (fun q => c2 (Or.inl q)) (fun q => c2 (Or.inr q))
      rw [show nx (nI j) = j from v_cl (by omega)]
      rcases (show b = 0 ∨ b = 1 by omega) with rfl | rfl
      · rw [if_pos nI_0, if_pos nI_0, p_tellB h0 k11 hj]; rfl
      · rw [if_neg (show ¬ nI 1 = 0 by decide), if_neg (show ¬ nI 1 = 0 by decide), p_tellB h1 k12 hj]; rfl
  · rw [is01_f c1, if_neg c1, Option.bind_some, if_pos rfl]
def A_lotOf (x1 x2 : Int32) (σ : Sp) : Int32 := if x1 < 0 then cIA else if x2 < 0 ∨ (1 : Int32) < x2 then cIA else if nx x1 < (v_lo σ).length then (if x2 = 0 then nI (lk (v_lo σ) (nx x1)).2 else nI (lk (v_lo σ) (nx x1)).1) else cNF
theorem p_lotOf' {σ : Sp} {B nw : Nat} {pA pM : Nat → Int32} {pn pt : Int32} (h : rowR (v_lo σ) pA pM pn pt) (hk : KK σ B) (x1 x2 : Int32) : f_X7_lotOf x1 x2 nw pA pM pn = some (A_lotOf x1 x2 σ) := by
  have k4 := hk.2.2.2.1
  rw [f_X7_lotOf, A_lotOf]
  by_cases c0 : x1 < 0
  · rw [if_pos c0, if_pos c0]
  · rw [if_neg c0, if_neg c0]
    obtain ⟨k, hkk, rfl⟩ := nI_of c0
    rw [show nx (nI k) = k from v_cl hkk]
    by_cases c2 : x2 < 0 ∨ (1 : Int32) < x2
    · rw [rg_t c2, if_pos c2]
    · rw [rg_f c2, if_neg c2, f_X3_tell, if_neg c0, h.1]
      by_cases c3 : k < (v_lo σ).length
      · have e1 := p_amountAt (N := 6) h k4 (by decide) c3
        have e2 := p_markAt (N := 6) h k4 (by decide) c3
        rw [h.1] at e1 e2
        rw [if_pos (nI_lt c3 (by omega)), if_pos c3, e1, e2, Option.bind_some, Option.bind_some]
        by_cases c4 : x2 = 0
        · rw [if_pos c4, if_pos c4]; rfl
        · rw [if_neg c4, if_neg c4]; rfl
      · rw [if_neg (nI_nlt (by omega) hkk), if_neg c3]; rfl
/-- what is told of a portion -/
def tlP (v : Nat → Nat) (p : Nat × Nat) (j : Nat) : Int32 := if j = 0 then nI p.1 else if j = 1 then nI (p.2 % 2) else if j = 2 then nI (p.2 / 2 % 2) else if j = 3 then nI (p.2 / 4) else nI (flm v p.2)
theorem p_tellP {v : Nat → Nat} {st : Nat → Int32} {p : Nat × Nat} (hs : stR v st) (hv : stK v) (h : p.2 < 4096) {j : Nat} (hj : j ≤ 4) (a : Option Int32) (ha : a = some (nI p.1)) : (if nI j = 0 then a.bind (fun q4 => some q4) else (if nI j = 1 then (f_X7_kindOfMark (nI p.2)).bind fun q6 => some q6 else (if nI j = 2 then (f_X7_burrOfMark (nI p.2)).bind fun q8 => some q8 else (if nI j = 3 then (f_X7_gapOfMark (nI p.2)).bind fun q10 => some q10 else (f_X1_flowOfMark (nI p.2) st).bind fun q11 => some q11)))) = some (tlP v p j) := by
  have e1 := p_kindOf p.2
  have e2 := p_burrOf (m := p.2) (by omega)
  have e3 := p_gapOf (m := p.2) (by omega)
  have e4 := p_flowOfMark hs hv (m := p.2) (by omega)
  rw [e1, e2, e3, e4, ha]
  rcases (show j = 0 ∨ j = 1 ∨ j = 2 ∨ j = 3 ∨ j = 4 by omega) with rfl | rfl | rfl | rfl | rfl
  · rw [if_pos nI_0]; rfl
  · rw [if_neg (by decide), if_pos (by decide)]; rfl
  · rw [if_neg (by decide), if_neg (by decide), if_pos (by decide)]; rfl
  · rw [if_neg (by decide), if_neg (by decide), if_neg (by decide), if_pos (by decide)]; rfl
  · rw [if_neg (by decide), if_neg (by decide), if_neg (by decide), if_neg (by decide)]; rfl
def A_portionOf (x1 x2 x3 : Int32) (σ : Sp) : Int32 := if x1 = 0 ∨ x1 = 1 then (if x2 < 0 then cIA else if x3 < 0 ∨ (4 : Int32) < x3 then cIA else if nx x2 < (if x1 = 0 then v_ch σ else v_ba σ).length then tlP (v_st σ) (lk (if x1 = 0 then v_ch σ else v_ba σ) (nx x2)) (nx x3) else cNF) else cIA
theorem p_portionOf' {σ : Sp} {B nw : Nat} {qA qM uA uM st : Nat → Int32} {qn qt un ut : Int32} (hq : rowR (v_ch σ) qA qM qn qt) (hu : rowR (v_ba σ) uA uM un ut) (hs : stR (v_st σ) st) (hk : KK σ B) (x1 x2 x3 : Int32) : f_X7_portionOf x1 x2 x3 nw qA qM qn uA uM un st = some (A_portionOf x1 x2 x3 σ) := by
  obtain ⟨k1, k2, k3, k4, k5, k6, k7, k8, k9, k10, k11, k12, k13, k14⟩ := hk
  have l1 := len_tot k5
  have l2 := len_tot k8
  rw [f_X7_portionOf, A_portionOf]
  by_cases c1 : x1 = 0 ∨ x1 = 1
  · rw [if_pos c1]
    obtain ⟨b, hb, rfl⟩ := v01 c1
    rw [is01_t hb, Option.bind_some, if_neg n10]
    by_cases c2 : x2 < 0
    · rw [if_pos c2, if_pos c2]
    · rw [if_neg c2, if_neg c2]
      obtain ⟨k, hkk, rfl⟩ := nI_of c2
      rw [show nx (nI k) = k from v_cl hkk]
      by_cases c3 : x3 < 0 ∨ (4 : Int32) < x3
      · rw [rg_t c3, if_pos c3]
      · rw [rg_f c3, if_neg c3]
        obtain ⟨j, hj, rfl⟩ := v_le (n := 4) (fun q => c3 (Or.inl q)) (fun q => c3 (Or.inr q))
        rw [show nx (nI j) = j from v_cl (by omega)]
        rcases (show b = 0 ∨ b = 1 by omega) with rfl | rfl
        · simp only [if_pos nI_0]
          rw [f_X7_portionOf_J48a, f_X1_tellPortion_q, hq.1]
          by_cases c4 : k < (v_ch σ).length
          · have e1 := p_amountAt (N := 106) hq (by omega) (by decide) c4
            have e2 := p_markAt (N := 106) hq (by omega) (by decide) c4
            rw [hq.1] at e1 e2
            rw [if_pos (nI_lt c4 (by omega)), if_pos c4, e2, Option.bind_some, p_tellP hs k13 (k5 _ (lk_m c4)).2.2 hj _ e1]
            rfl
          · rw [if_neg (nI_nlt (by omega) hkk), if_neg c4]
            rfl
        · have n1 : ¬ nI 1 = (0 : Int32) := by decide
          simp only [if_neg n1]
          rw [f_X7_portionOf_J48, f_X1_tellPortion_u, hu.1]
          by_cases c4 : k < (v_ba σ).length
          · have e1 := p_amountAt (N := 400) hu (by omega) (by decide) c4
            have e2 := p_markAt (N := 400) hu (by omega) (by decide) c4
            rw [hu.1] at e1 e2
            rw [if_pos (nI_lt c4 (by omega)), if_pos c4, e2, Option.bind_some, p_tellP hs k13 (k8 _ (lk_m c4)).2.2 hj _ e1]
            rfl
          · rw [if_neg (nI_nlt (by omega) hkk), if_neg c4]
            rfl
  · rw [is01_f c1, if_neg c1, Option.bind_some, if_pos rfl]
def A_shotOf (x1 x2 : Int32) (σ : Sp) : Int32 := if x1 < 0 then cIA else if x2 < 0 ∨ (7 : Int32) < x2 then cIA else if nx x1 < (v_K σ).length then shOf (sk0 (v_K σ) (nx x1)) (v_st σ 0) (nx x2) else cNF
theorem p_shotOf' {σ : Sp} {B nw : Nat} {sF st : Nat → Int32} {sk : Int32} (hK : shR (v_K σ) sF sk) (hs : stR (v_st σ) st) (hk : KK σ B) (x1 x2 : Int32) : f_X7_shotOf x1 x2 nw sF sk st = some (A_shotOf x1 x2 σ) := by
  have k13 := hk.2.2.2.2.2.2.2.2.2.2.2.2.1
  rw [f_X7_shotOf, A_shotOf]
  by_cases c1 : x1 < 0
  · rw [if_pos c1, if_pos c1]
  · rw [if_neg c1, if_neg c1]
    obtain ⟨k, hkk, rfl⟩ := nI_of c1
    rw [show nx (nI k) = k from v_cl hkk]
    by_cases c2 : x2 < 0 ∨ (7 : Int32) < x2
    · rw [rg_t c2, if_pos c2]
    · rw [rg_f c2, if_neg c2]
      obtain ⟨j, hj, rfl⟩ := v_le (n := 7) (fun q => c2 (Or.inl q)) (fun q => c2 (Or.inr q))
      have e0 : st (0 : Int32).toNatClampNeg = nI (v_st σ 0) := hs 0 (by decide)
      rw [e0, p_tellShot hK k13.2.1 hkk (by omega), Option.bind_some, show nx (nI j) = j from v_cl (by omega)]
def A_count (x1 : Int32) (σ : Sp) : Int32 := if x1 = 0 then nI (v_se σ) else if x1 = 1 then v_fi σ else if x1 = 2 then v_gr σ else if x1 = 3 then v_br σ else if x1 = 4 then v_pu σ else if x1 = 5 then nI (tot (v_lo σ)) else if x1 = 6 then nI (tot (v_ch σ)) else if x1 = 7 then nI (tot (v_ba σ)) else if x1 = 8 then v_mk σ else if x1 = 9 then v_nr σ else if x1 = 11 then 0 else if x1 < 20 then cIA else if nx x1 < 26 then nI (v_st σ (nx x1 - 20)) else cIA
theorem p_count' {σ : Sp} {nw : Nat} {yn pt qt ut sm se fi gr br pu nr : Int32} {st : Nat → Int32} (hpt : pt = nI (tot (v_lo σ))) (hqt : qt = nI (tot (v_ch σ))) (hut : ut = nI (tot (v_ba σ))) (hsm : sm = v_mk σ) (hst : stR (v_st σ) st) (hse : se = nI (v_se σ)) (hfi : fi = v_fi σ) (hgr : gr = v_gr σ) (hbr : br = v_br σ) (hpu : pu = v_pu σ) (hnr : nr = v_nr σ) (x1 : Int32) (c10 : ¬ x1 = 10) : f_X7_count x1 nw yn 0 pt qt ut sm st se fi gr br pu nr = some (A_count x1 σ) := by
  subst hpt hqt hut hsm hse hfi hgr hbr hpu hnr
  rw [f_X7_count, f_X1_tell, if_neg c10, A_count]
  by_cases c0 : x1 = 0
  · subst c0; rfl
  by_cases c1 : x1 = 1
  · subst c1; rfl
  by_cases c2 : x1 = 2
  · subst c2; rfl
  by_cases c3 : x1 = 3
  · subst c3; rfl
  by_cases c4 : x1 = 4
  · subst c4; rfl
  by_cases c5 : x1 = 5
  · subst c5; rfl
  by_cases c6 : x1 = 6
  · subst c6; rfl
  by_cases c7 : x1 = 7
  · subst c7; rfl
  by_cases c8 : x1 = 8
  · subst c8; rfl
  by_cases c9 : x1 = 9
  · subst c9; rfl
  by_cases c11 : x1 = 11
  · subst c11; rfl
  rw [if_neg c11, if_neg c0, if_neg c1, if_neg c2, if_neg c3, if_neg c4, if_neg c5, if_neg c6, if_neg c7, if_neg c8, if_neg c9, if_neg c0, if_neg c1, if_neg c2, if_neg c3, if_neg c4, if_neg c5, if_neg c6, if_neg c7, if_neg c8, if_neg c9, if_neg c11, f_X1_tellSetting]
  by_cases d1 : x1 < (20 : Int32)
  · rw [if_pos d1, if_pos d1]; rfl
  · have h0 : ¬ x1 < 0 := fun q => d1 (by
      rw [Int32.lt_iff_toInt_lt] at q ⊢
      rw [Int32.toInt_zero] at q
      rw [fa_lit 20, nI_toInt (by decide)]
      omega)
    obtain ⟨j, hj, rfl⟩ := nI_of h0
    have hj1 : 20 ≤ j := Nat.not_lt.mp (fun q => d1 (nI_lt (b := 20) q (by decide)))
    rw [if_neg d1, if_neg d1, show (20 : Int32) + (6 : Int32) = nI 26 from rfl, show nx (nI j) = j from v_cl hj]
    by_cases d2 : j < 26
    · have hi : j - 20 < 6 := by omega
      rw [if_pos (nI_lt d2 (by decide)), if_pos d2, fa_lit 20, pk_sub hj1, gd_t (nI_in (by omega) (by decide)), v_cl (by omega), hst (j - 20) hi]
      rfl
    · rw [if_neg (nI_nlt (by omega) hj), if_neg d2]
      rfl
noncomputable def Q_burrOf (x1 x2 : Int32) (σ : Sp) : Option Int32 := some (A_burrOf x1 x2 σ)
noncomputable def Q_lotOf (x1 x2 : Int32) (σ : Sp) : Option Int32 := some (A_lotOf x1 x2 σ)
noncomputable def Q_portionOf (x1 x2 x3 : Int32) (σ : Sp) : Option Int32 := some (A_portionOf x1 x2 x3 σ)
noncomputable def Q_shotOf (x1 x2 : Int32) (σ : Sp) : Option Int32 := some (A_shotOf x1 x2 σ)
noncomputable def Q_count (x1 : Int32) (σ : Sp) : Option Int32 := gd (¬ x1 = 10) (some (A_count x1 σ))
noncomputable def QO (a : Int32) (σ' σ : Sp) : Option (Int32 × Sp) := gd (v_se σ < 2 ^ 27) (some (a, if 0 ≤ a then σ' else σ))
noncomputable def Q_fill (x1 x2 : Int32) (σ : Sp) : Option (Int32 × Sp) := QO (a_fill x1 x2 (v_lo σ)) (o_fill (nx x1) (nx x2) σ) σ
noncomputable def Q_grind (x1 x2 : Int32) (σ : Sp) : Option (Int32 × Sp) := QO (a_grind x1 x2 (v_lo σ) (v_ch σ) (v_ba σ) (v_st σ 2)) (o_grind (nx x1) (nx x2) σ) σ
noncomputable def Q_dial (x1 x2 : Int32) (σ : Sp) : Option (Int32 × Sp) := QO (a_dial x1 x2 (v_b0 σ) (v_b1 σ)) (o_dial (nx x1) (nx x2) σ) σ
noncomputable def Q_rest (x1 : Int32) (σ : Sp) : Option (Int32 × Sp) := QO (a_rest x1 (v_b0 σ).2.1 (v_b1 σ).2.1 (v_se σ)) (o_rest (nx x1) σ) σ
noncomputable def Q_shot (σ : Sp) : Option (Int32 × Sp) := QO (a_shot (v_st σ) (v_ba σ)) (o_shot σ) σ
noncomputable def Q_purge (σ : Sp) : Option (Int32 × Sp) := QO (nI (tot (v_ch σ))) (o_purge σ) σ
noncomputable def Q_correct (x1 : Int32) (σ : Sp) : Option (Int32 × Sp) := QO (a_corr x1 (v_K σ) (v_b0 σ) (v_b1 σ) (v_st σ 0)) (o_corr (nx x1) σ) σ
noncomputable def Q_set (x1 x2 : Int32) (σ : Sp) : Option (Int32 × Sp) := QO (a_set x1 x2 (v_st σ)) (o_set (nx x1) (nx x2) σ) σ
theorem KK_self {σ : Sp} {B : Nat} (h : KK σ B) : KK σ (v_se σ) := by
  obtain ⟨k1, k2, k3, k4, k5, k6, k7, k8, k9, k10, k11, k12, k13, k14⟩ := h
  exact ⟨k1, k2, k3, k4, k5, k6, k7, k8, k9, k10, k11, k12, k13, Nat.le_refl _⟩
theorem p_keep {a : Int32} {nw sp yl ys yt yo n : Nat} (hn : n ≤ 4) : f_X7_keepIfDone a nw sp yl ys yt yo (nI n) = some (if 0 ≤ a then (a, sp, yo, nw, yl, ys, yt, nI (min 4 (n + 1))) else (a, nw, sp, yl, ys, yt, yo, nI n)) := by
  rw [f_X7_keepIfDone]
  by_cases c : 0 ≤ a
  · have e : (if nI n + (1 : Int32) < (4 : Int32) then nI n + (1 : Int32) else (4 : Int32)) = nI (min 4 (n + 1)) := by
      rw [nI_1]
      by_cases q : n + 1 < 4
      · rw [if_pos (show nI (n + 1) < (4 : Int32) from nI_lt (b := 4) q (by decide))]
        exact nI_inj (by omega)
      · rw [if_neg (show ¬ nI (n + 1) < (4 : Int32) from nI_nlt (b := 4) (by omega) (by omega)), show min 4 (n + 1) = 4 by omega]
        rfl
    rw [if_pos c, if_pos c, f_X2_add, e, lt_v, Option.bind_some]
  · rw [if_neg c, if_neg c]
/-- a change of the class: the state that is spare is the new one, or nothing is -/
def PCH (σ' : Sp) (a : Int32) (nw sp yl ys yt yo n : Nat) (R : Int32 × Nat × Nat × Nat × Nat × Nat × Nat × Int32 × Gr) : Prop := R.1 = a ∧ (a < 0 → R.2.1 = nw ∧ R.2.2.1 = sp ∧ R.2.2.2.1 = yl ∧ R.2.2.2.2.1 = ys ∧ R.2.2.2.2.2.1 = yt ∧ R.2.2.2.2.2.2.1 = yo ∧ R.2.2.2.2.2.2.2.1 = nI n) ∧ (0 ≤ a → R.2.1 = sp ∧ R.2.2.1 = yo ∧ R.2.2.2.1 = nw ∧ R.2.2.2.2.1 = yl ∧ R.2.2.2.2.2.1 = ys ∧ R.2.2.2.2.2.2.1 = yt ∧ R.2.2.2.2.2.2.2.1 = nI (min 4 (n + 1)) ∧ GR σ' R.2.2.2.2.2.2.2.2)
theorem p_chg {σ σ' : Sp} {gN gS : Gr} {B n nw sp yl ys yt yo : Nat} {a : Int32} (F : Gr → Option (Int32 × Gr)) (hg : GR σ gN) (hk : KK σ B) (hn : n ≤ 4) (hF : ∀ g, GR σ g → ∃ R, F g = some R ∧ R.1 = a ∧ (0 ≤ R.1 → GR σ' R.2)) : ∃ R, ((f_X7_spareLikeNow nw sp gN gS).bind fun q1 => (F q1).bind fun q2 => (f_X7_keepIfDone q2.1 nw sp yl ys yt yo (nI n)).bind fun q3 => some (q3.1, q3.2.1, q3.2.2.1, q3.2.2.2.1, q3.2.2.2.2.1, q3.2.2.2.2.2.1, q3.2.2.2.2.2.2.1, q3.2.2.2.2.2.2.2, q2.2)) = some R ∧ PCH σ' a nw sp yl ys yt yo n R := by
  obtain ⟨g1, e1, h1⟩ := G_copyFrom hg hk gS
  obtain ⟨R2, e2, h2, h3⟩ := hF g1 h1
  rw [f_X7_spareLikeNow, e1, Option.bind_some, Option.bind_some, e2, Option.bind_some, p_keep hn, Option.bind_some]
  by_cases c : 0 ≤ R2.1
  · rw [if_pos c]
    refine ⟨_, rfl, h2, fun q => absurd (h2 ▸ c) (Int32.not_le.mpr q), fun _ => ⟨rfl, rfl, rfl, rfl, rfl, rfl, rfl, h3 c⟩⟩
  · rw [if_neg c]
    exact ⟨_, rfl, h2, fun _ => ⟨rfl, rfl, rfl, rfl, rfl, rfl, rfl⟩, fun q => absurd (h2 ▸ q) c⟩
end
section
/-! the law's methods as partial functions (printed by wip/p26/gen) -/
noncomputable def f_L_cell (N : Nat) (x1 : Int32) (vs : Nat → Int32) : Option (Int32) := (if (nI N) ≤ x1 then some ((40503 : Int32) * (x1 + (3 : Int32))) else gd (¬ (x1 < 0 ∨ N ≤ x1.toNatClampNeg)) (some (vs x1.toNatClampNeg)))
noncomputable def f_L_low (x0 : Int32) (x1 : Int32) : Option (Int32) := gd (¬ x1 = 0) (some ((x0 &&& (2147483647 : Int32)) - (x0 &&& (2147483647 : Int32)) / x1 * x1))
noncomputable def f_L_gap (x0 : Int32) (x1 : Int32) : Option (Int32) := (if (((10 : Int32) * x0) - (x1 / (5 : Int32))) ≤ (10 : Int32) then some (10 : Int32) else some (((10 : Int32) * x0) - (x1 / (5 : Int32))))
noncomputable def f_L_flow (x1 : Int32) (vg : Nat → Int32) : Option (Int32) := gd (¬ (((10 : Int32) + ((x1 / (1000 : Int32)) - (x1 / (1000 : Int32)) / (2 : Int32) * (2 : Int32))) < 0 ∨ 15 ≤ ((10 : Int32) + ((x1 / (1000 : Int32)) - (x1 / (1000 : Int32)) / (2 : Int32) * (2 : Int32))).toNatClampNeg)) (gd (¬ (x1 / (4000 : Int32)) = 0) (some (((1000 : Int32) * (vg ((10 : Int32) + ((x1 / (1000 : Int32)) - (x1 / (1000 : Int32)) / (2 : Int32) * (2 : Int32))).toNatClampNeg)) / (x1 / (4000 : Int32)))))
noncomputable def f_L_amounts_L4 (vc : Nat → Int32) : Nat → Int32 → Int32 → Option (Int32)
  | 0, _, _ => none
  | fu + 1, y1_4, y2_4 => (if (vc (0 : Int32).toNatClampNeg) < y2_4 then some y1_4 else gd (¬ (y2_4 < 0 ∨ 64 ≤ y2_4.toNatClampNeg)) (lt ((y1_4 + ((vc y2_4.toNatClampNeg) - (vc y2_4.toNatClampNeg) / (1000 : Int32) * (1000 : Int32)))) fun v3 => lt (y2_4 + (1 : Int32)) fun v4 => (f_L_amounts_L4 vc fu) v3 v4))
noncomputable def f_L_amounts (vc : Nat → Int32) : Option (Int32) := f_L_amounts_L4 vc FU (0 : Int32) (1 : Int32)
noncomputable def f_L_hopper_L4 (vg : Nat → Int32) (vh : Nat → Int32) : Nat → Int32 → Int32 → Option (Int32)
  | 0, _, _ => none
  | fu + 1, y2_4, y3_4 => (if (vg (13 : Int32).toNatClampNeg) ≤ y3_4 then some y2_4 else gd (¬ ((((2 : Int32) * y3_4) + (1 : Int32)) < 0 ∨ 12 ≤ (((2 : Int32) * y3_4) + (1 : Int32)).toNatClampNeg)) (lt ((y2_4 + (vh (((2 : Int32) * y3_4) + (1 : Int32)).toNatClampNeg))) fun v3 => lt (y3_4 + (1 : Int32)) fun v4 => (f_L_hopper_L4 vg vh fu) v3 v4))
noncomputable def f_L_hopper (vg : Nat → Int32) (vh : Nat → Int32) : Option (Int32) := f_L_hopper_L4 vg vh FU (0 : Int32) (0 : Int32)
noncomputable def f_L_pass_J92 (r5 : Int32 → Int32 → (Nat → Int32) → (Nat → Int32) → Option (Int32 × (Nat → Int32) × (Nat → Int32))) (y2_5 : Int32) (y3_92 : Int32) (y4_92 : Int32) (vg_92 : Nat → Int32) (vu_92 : Nat → Int32) : Option (Int32 × (Nat → Int32) × (Nat → Int32)) := lt (y4_92 + (1 : Int32)) fun v11 => r5 y3_92 v11 vg_92 vu_92
noncomputable def f_L_pass_J70 (r5 : Int32 → Int32 → (Nat → Int32) → (Nat → Int32) → Option (Int32 × (Nat → Int32) × (Nat → Int32))) (r21 : Int32 → Int32 → (Nat → Int32) → (Nat → Int32) → Option (Int32 × (Nat → Int32) × (Nat → Int32))) (y2_5 : Int32) (y3_70 : Int32) (y4_21 : Int32) (y5_70 : Int32) (z0_70 : Int32) (vg_70 : Nat → Int32) (vu_70 : Nat → Int32) : Option (Int32 × (Nat → Int32) × (Nat → Int32)) := gd (¬ (y5_70 < 0 ∨ 8 ≤ y5_70.toNatClampNeg)) (lt (((vu_70 y5_70.toNatClampNeg) - z0_70)) fun v13 => gd (¬ (y5_70 < 0 ∨ 8 ≤ y5_70.toNatClampNeg)) (lt (upd vu_70 y5_70.toNatClampNeg v13) fun Z15 => lt ((y3_70 + z0_70)) fun v16 => lt (y5_70 + (4 : Int32)) fun v17 => r21 v16 v17 vg_70 Z15))
noncomputable def f_L_pass_L21 (r5 : Int32 → Int32 → (Nat → Int32) → (Nat → Int32) → Option (Int32 × (Nat → Int32) × (Nat → Int32))) (y2_5 : Int32) (y4_21 : Int32) : Nat → Int32 → Int32 → (Nat → Int32) → (Nat → Int32) → Option (Int32 × (Nat → Int32) × (Nat → Int32))
  | 0, _, _, _, _ => none
  | fu + 1, y3_21, y5_21, vg_21, vu_21 => (if (8 : Int32) ≤ y5_21 then f_L_pass_J92 r5 y2_5 y3_21 y4_21 vg_21 vu_21 else (if ((vg_21 (0 : Int32).toNatClampNeg) - (vg_21 (0 : Int32).toNatClampNeg) / (10 : Int32) * (10 : Int32)) = 0 then gd (¬ (y5_21 < 0 ∨ 8 ≤ y5_21.toNatClampNeg)) ((if ((vu_21 y5_21.toNatClampNeg) / (16 : Int32)) ≤ (1 : Int32) then gd (¬ (y5_21 < 0 ∨ 8 ≤ y5_21.toNatClampNeg)) ((if (vu_21 y5_21.toNatClampNeg) ≤ 0 then f_L_pass_J70 r5 (f_L_pass_L21 r5 y2_5 y4_21 fu) y2_5 y3_21 y4_21 y5_21 (0 : Int32) vg_21 vu_21 else f_L_pass_J70 r5 (f_L_pass_L21 r5 y2_5 y4_21 fu) y2_5 y3_21 y4_21 y5_21 (1 : Int32) vg_21 vu_21)) else gd (¬ (y5_21 < 0 ∨ 8 ≤ y5_21.toNatClampNeg)) (f_L_pass_J70 r5 (f_L_pass_L21 r5 y2_5 y4_21 fu) y2_5 y3_21 y4_21 y5_21 ((vu_21 y5_21.toNatClampNeg) / (16 : Int32)) vg_21 vu_21))) else f_L_pass_J92 r5 y2_5 y3_21 y4_21 vg_21 vu_21))
noncomputable def f_L_pass_L5 (y2_5 : Int32) : Nat → Int32 → Int32 → (Nat → Int32) → (Nat → Int32) → Option (Int32 × (Nat → Int32) × (Nat → Int32))
  | 0, _, _, _, _ => none
  | fu + 1, y3_5, y4_5, vg_5, vu_5 => (if y2_5 ≤ y4_5 then some (y3_5, vg_5, vu_5) else lt (((vg_5 (0 : Int32).toNatClampNeg) + (1 : Int32))) fun v2 => lt (upd vg_5 (0 : Int32).toNatClampNeg v2) fun Z3 => f_L_pass_L21 (f_L_pass_L5 y2_5 fu) y2_5 y4_5 FU y3_5 (1 : Int32) Z3 vu_5)
noncomputable def f_L_pass (x2 : Int32) (vg : Nat → Int32) (vu : Nat → Int32) : Option (Int32 × (Nat → Int32) × (Nat → Int32)) := f_L_pass_L5 x2 FU (0 : Int32) (0 : Int32) vg vu
noncomputable def f_L_away (x1 : Int32) (vg : Nat → Int32) : Option (Int32) := (if x1 ≤ (vg (7 : Int32).toNatClampNeg) then some ((vg (7 : Int32).toNatClampNeg) - x1) else some (x1 - (vg (7 : Int32).toNatClampNeg)))
noncomputable def f_L_can_J43 (vg : Nat → Int32) (vh : Nat → Int32) (vc : Nat → Int32) (ve : Nat → Int32) (z0_43 : Int32) : Option (Int32) := (f_L_amounts ve).bind fun q6 => (if (q6 + z0_43) ≤ (400 : Int32) then some z0_43 else some (-1000003 : Int32))
noncomputable def f_L_can (x4 : Int32) (vg : Nat → Int32) (vh : Nat → Int32) (vc : Nat → Int32) (ve : Nat → Int32) : Option (Int32) := (f_L_hopper vg vh).bind fun q1 => (if x4 ≤ q1 then (f_L_amounts vc).bind fun q3 => (if (q3 + x4) ≤ (vg (9 : Int32).toNatClampNeg) then f_L_can_J43 vg vh vc ve (0 : Int32) else (f_L_amounts vc).bind fun q5 => f_L_can_J43 vg vh vc ve ((q5 + x4) - (vg (9 : Int32).toNatClampNeg))) else some (-1000002 : Int32))
noncomputable def f_L_grind_J356 (r244 : Int32 → (Nat → Int32) → (Nat → Int32) → (Nat → Int32) → (Nat → Int32) → (Nat → Int32) → Option ((Nat → Int32) × (Nat → Int32) × (Nat → Int32) × (Nat → Int32) × (Nat → Int32))) (z0_356 : Int32) (z1_356 : Int32) (z2_356 : Int32) (vg_356 : Nat → Int32) (vu_356 : Nat → Int32) (vh_356 : Nat → Int32) (vc_356 : Nat → Int32) (ve_356 : Nat → Int32) : Option ((Nat → Int32) × (Nat → Int32) × (Nat → Int32) × (Nat → Int32) × (Nat → Int32)) := lt ((z1_356 - z0_356)) fun v63 => gd (¬ (z2_356 < 0 ∨ 64 ≤ z2_356.toNatClampNeg)) (lt (upd vc_356 z2_356.toNatClampNeg v63) fun Z65 => (f_L_amounts Z65).bind fun q66 => lt ((q66 - (vg_356 (9 : Int32).toNatClampNeg))) fun v67 => r244 v67 vg_356 vu_356 vh_356 Z65 ve_356)
noncomputable def f_L_grind_J340 (r244 : Int32 → (Nat → Int32) → (Nat → Int32) → (Nat → Int32) → (Nat → Int32) → (Nat → Int32) → Option ((Nat → Int32) × (Nat → Int32) × (Nat → Int32) × (Nat → Int32) × (Nat → Int32))) (y10_340 : Int32) (y11_340 : Int32) (vg_340 : Nat → Int32) (vu_340 : Nat → Int32) (vh_340 : Nat → Int32) (vc_340 : Nat → Int32) (ve_340 : Nat → Int32) : Option ((Nat → Int32) × (Nat → Int32) × (Nat → Int32) × (Nat → Int32) × (Nat → Int32)) := (if y11_340 = y10_340 then f_L_grind_J356 r244 (1 : Int32) (vc_340 (0 : Int32).toNatClampNeg) (0 : Int32) vg_340 vu_340 vh_340 vc_340 ve_340 else f_L_grind_J356 r244 (0 : Int32) (vc_340 (0 : Int32).toNatClampNeg) (0 : Int32) vg_340 vu_340 vh_340 vc_340 ve_340)
noncomputable def f_L_grind_L309 (r244 : Int32 → (Nat → Int32) → (Nat → Int32) → (Nat → Int32) → (Nat → Int32) → (Nat → Int32) → Option ((Nat → Int32) × (Nat → Int32) × (Nat → Int32) × (Nat → Int32) × (Nat → Int32))) (y10_309 : Int32) (y11_309 : Int32) : Nat → Int32 → (Nat → Int32) → (Nat → Int32) → (Nat → Int32) → (Nat → Int32) → (Nat → Int32) → Option ((Nat → Int32) × (Nat → Int32) × (Nat → Int32) × (Nat → Int32) × (Nat → Int32))
  | 0, _, _, _, _, _, _ => none
  | fu + 1, y12_309, vg_309, vu_309, vh_309, vc_309, ve_309 => (if (vc_309 (0 : Int32).toNatClampNeg) ≤ y12_309 then f_L_grind_J340 r244 y10_309 y11_309 vg_309 vu_309 vh_309 vc_309 ve_309 else (if y11_309 = y10_309 then gd (¬ ((y12_309 + (1 : Int32)) < 0 ∨ 64 ≤ (y12_309 + (1 : Int32)).toNatClampNeg)) (lt ((vc_309 (y12_309 + (1 : Int32)).toNatClampNeg)) fun v54 => gd (¬ (y12_309 < 0 ∨ 64 ≤ y12_309.toNatClampNeg)) (lt (upd vc_309 y12_309.toNatClampNeg v54) fun Z56 => lt (y12_309 + (1 : Int32)) fun v57 => (f_L_grind_L309 r244 y10_309 y11_309 fu) v57 vg_309 vu_309 vh_309 Z56 ve_309)) else f_L_grind_J340 r244 y10_309 y11_309 vg_309 vu_309 vh_309 vc_309 ve_309))
noncomputable def f_L_grind_J272 (r244 : Int32 → (Nat → Int32) → (Nat → Int32) → (Nat → Int32) → (Nat → Int32) → (Nat → Int32) → Option ((Nat → Int32) × (Nat → Int32) × (Nat → Int32) × (Nat → Int32) × (Nat → Int32))) (y10_272 : Int32) (z0_272 : Int32) (vg_272 : Nat → Int32) (vu_272 : Nat → Int32) (vh_272 : Nat → Int32) (vc_272 : Nat → Int32) (ve_272 : Nat → Int32) : Option ((Nat → Int32) × (Nat → Int32) × (Nat → Int32) × (Nat → Int32) × (Nat → Int32)) := lt (((ve_272 (0 : Int32).toNatClampNeg) + (1 : Int32))) fun v37 => lt (upd ve_272 (0 : Int32).toNatClampNeg v37) fun Z38 => lt ((((vc_272 (1 : Int32).toNatClampNeg) - y10_272) + z0_272)) fun v39 => gd (¬ ((Z38 (0 : Int32).toNatClampNeg) < 0 ∨ 64 ≤ (Z38 (0 : Int32).toNatClampNeg).toNatClampNeg)) (lt (upd Z38 (Z38 (0 : Int32).toNatClampNeg).toNatClampNeg v39) fun Z41 => lt (((vc_272 (1 : Int32).toNatClampNeg) - z0_272)) fun v42 => lt (upd vc_272 (1 : Int32).toNatClampNeg v42) fun Z43 => f_L_grind_L309 r244 y10_272 z0_272 FU (1 : Int32) vg_272 vu_272 vh_272 Z43 Z41)
noncomputable def f_L_grind_L244 : Nat → Int32 → (Nat → Int32) → (Nat → Int32) → (Nat → Int32) → (Nat → Int32) → (Nat → Int32) → Option ((Nat → Int32) × (Nat → Int32) × (Nat → Int32) × (Nat → Int32) × (Nat → Int32))
  | 0, _, _, _, _, _, _ => none
  | fu + 1, y9_244, vg_244, vu_244, vh_244, vc_244, ve_244 => (if y9_244 ≤ 0 then some (vg_244, vu_244, vh_244, vc_244, ve_244) else lt (((vc_244 (1 : Int32).toNatClampNeg) - (vc_244 (1 : Int32).toNatClampNeg) / (1000 : Int32) * (1000 : Int32))) fun v35 => (if y9_244 ≤ v35 then f_L_grind_J272 (f_L_grind_L244 fu) v35 y9_244 vg_244 vu_244 vh_244 vc_244 ve_244 else f_L_grind_J272 (f_L_grind_L244 fu) v35 v35 vg_244 vu_244 vh_244 vc_244 ve_244))
noncomputable def f_L_grind_J211 (y5_211 : Int32) (y6_211 : Int32) (z0_211 : Int32) (z1_211 : Int32) (vg_211 : Nat → Int32) (vu_211 : Nat → Int32) (vh_211 : Nat → Int32) (vc_211 : Nat → Int32) (ve_211 : Nat → Int32) : Option ((Nat → Int32) × (Nat → Int32) × (Nat → Int32) × (Nat → Int32) × (Nat → Int32)) := gd (¬ (z1_211 < 0 ∨ 8 ≤ z1_211.toNatClampNeg)) (lt (upd vu_211 z1_211.toNatClampNeg z0_211) fun Z15 => lt ((((4 : Int32) * y5_211) + (2 : Int32))) fun v16 => gd (¬ (v16 < 0 ∨ 8 ≤ v16.toNatClampNeg)) (lt (((Z15 v16.toNatClampNeg) + y6_211)) fun v18 => gd (¬ (v16 < 0 ∨ 8 ≤ v16.toNatClampNeg)) (lt (upd Z15 v16.toNatClampNeg v18) fun Z20 => lt (((vg_211 (2 : Int32).toNatClampNeg) + y6_211)) fun v21 => lt (upd vg_211 (2 : Int32).toNatClampNeg v21) fun Z22 => (f_L_amounts vc_211).bind fun q23 => lt ((q23 - (Z22 (9 : Int32).toNatClampNeg))) fun v24 => f_L_grind_L244 FU v24 Z22 Z20 vh_211 vc_211 ve_211)))
noncomputable def f_L_grind_J156 (r23 : Int32 → (Nat → Int32) → (Nat → Int32) → (Nat → Int32) → (Nat → Int32) → (Nat → Int32) → Option ((Nat → Int32) × (Nat → Int32) × (Nat → Int32) × (Nat → Int32) × (Nat → Int32))) (y5_23 : Int32) (y6_23 : Int32) (y7_23 : Int32) (y8_156 : Int32) (z0_156 : Int32) (z1_156 : Int32) (z2_156 : Int32) (vg_156 : Nat → Int32) (vu_156 : Nat → Int32) (vh_156 : Nat → Int32) (vc_156 : Nat → Int32) (ve_156 : Nat → Int32) : Option ((Nat → Int32) × (Nat → Int32) × (Nat → Int32) × (Nat → Int32) × (Nat → Int32)) := lt ((z1_156 - z0_156)) fun v60 => gd (¬ (z2_156 < 0 ∨ 15 ≤ z2_156.toNatClampNeg)) (lt (upd vg_156 z2_156.toNatClampNeg v60) fun Z62 => r23 y8_156 Z62 vu_156 vh_156 vc_156 ve_156)
noncomputable def f_L_grind_J141 (r23 : Int32 → (Nat → Int32) → (Nat → Int32) → (Nat → Int32) → (Nat → Int32) → (Nat → Int32) → Option ((Nat → Int32) × (Nat → Int32) × (Nat → Int32) × (Nat → Int32) × (Nat → Int32))) (y5_23 : Int32) (y6_23 : Int32) (y7_23 : Int32) (y8_141 : Int32) (y10_141 : Int32) (vg_141 : Nat → Int32) (vu_141 : Nat → Int32) (vh_141 : Nat → Int32) (vc_141 : Nat → Int32) (ve_141 : Nat → Int32) : Option ((Nat → Int32) × (Nat → Int32) × (Nat → Int32) × (Nat → Int32) × (Nat → Int32)) := (if y10_141 = 0 then f_L_grind_J156 r23 y5_23 y6_23 y7_23 y8_141 (0 : Int32) (vg_141 (13 : Int32).toNatClampNeg) (13 : Int32) vg_141 vu_141 vh_141 vc_141 ve_141 else f_L_grind_J156 r23 y5_23 y6_23 y7_23 y8_141 (1 : Int32) (vg_141 (13 : Int32).toNatClampNeg) (13 : Int32) vg_141 vu_141 vh_141 vc_141 ve_141)
noncomputable def f_L_grind_L113 (r23 : Int32 → (Nat → Int32) → (Nat → Int32) → (Nat → Int32) → (Nat → Int32) → (Nat → Int32) → Option ((Nat → Int32) × (Nat → Int32) × (Nat → Int32) × (Nat → Int32) × (Nat → Int32))) (y5_23 : Int32) (y6_23 : Int32) (y7_23 : Int32) (y8_113 : Int32) (y10_113 : Int32) : Nat → Int32 → (Nat → Int32) → (Nat → Int32) → (Nat → Int32) → (Nat → Int32) → (Nat → Int32) → Option ((Nat → Int32) × (Nat → Int32) × (Nat → Int32) × (Nat → Int32) × (Nat → Int32))
  | 0, _, _, _, _, _, _ => none
  | fu + 1, y11_113, vg_113, vu_113, vh_113, vc_113, ve_113 => (if (10 : Int32) ≤ y11_113 then f_L_grind_J141 r23 y5_23 y6_23 y7_23 y8_113 y10_113 vg_113 vu_113 vh_113 vc_113 ve_113 else (if y10_113 = 0 then f_L_grind_J141 r23 y5_23 y6_23 y7_23 y8_113 y10_113 vg_113 vu_113 vh_113 vc_113 ve_113 else gd (¬ ((y11_113 + (2 : Int32)) < 0 ∨ 12 ≤ (y11_113 + (2 : Int32)).toNatClampNeg)) (lt ((vh_113 (y11_113 + (2 : Int32)).toNatClampNeg)) fun v47 => gd (¬ (y11_113 < 0 ∨ 12 ≤ y11_113.toNatClampNeg)) (lt (upd vh_113 y11_113.toNatClampNeg v47) fun Z49 => lt (y11_113 + (1 : Int32)) fun v50 => (f_L_grind_L113 r23 y5_23 y6_23 y7_23 y8_113 y10_113 fu) v50 vg_113 vu_113 Z49 vc_113 ve_113))))
noncomputable def f_L_grind_J108 (r23 : Int32 → (Nat → Int32) → (Nat → Int32) → (Nat → Int32) → (Nat → Int32) → (Nat → Int32) → Option ((Nat → Int32) × (Nat → Int32) × (Nat → Int32) × (Nat → Int32) × (Nat → Int32))) (y5_23 : Int32) (y6_23 : Int32) (y7_23 : Int32) (y8_108 : Int32) (z0_108 : Int32) (vg_108 : Nat → Int32) (vu_108 : Nat → Int32) (vh_108 : Nat → Int32) (vc_108 : Nat → Int32) (ve_108 : Nat → Int32) : Option ((Nat → Int32) × (Nat → Int32) × (Nat → Int32) × (Nat → Int32) × (Nat → Int32)) := f_L_grind_L113 r23 y5_23 y6_23 y7_23 y8_108 z0_108 FU (0 : Int32) vg_108 vu_108 vh_108 vc_108 ve_108
noncomputable def f_L_grind_J44 (r23 : Int32 → (Nat → Int32) → (Nat → Int32) → (Nat → Int32) → (Nat → Int32) → (Nat → Int32) → Option ((Nat → Int32) × (Nat → Int32) × (Nat → Int32) × (Nat → Int32) × (Nat → Int32))) (y5_23 : Int32) (y6_23 : Int32) (y7_23 : Int32) (y8_44 : Int32) (z0_44 : Int32) (vg_44 : Nat → Int32) (vu_44 : Nat → Int32) (vh_44 : Nat → Int32) (vc_44 : Nat → Int32) (ve_44 : Nat → Int32) : Option ((Nat → Int32) × (Nat → Int32) × (Nat → Int32) × (Nat → Int32) × (Nat → Int32)) := lt (((vc_44 (0 : Int32).toNatClampNeg) + (1 : Int32))) fun v25 => lt (upd vc_44 (0 : Int32).toNatClampNeg v25) fun Z26 => lt ((((z0_44 + ((1000 : Int32) * (vh_44 (0 : Int32).toNatClampNeg))) + ((2000 : Int32) * y5_23)) + ((4000 : Int32) * y7_23))) fun v27 => gd (¬ ((Z26 (0 : Int32).toNatClampNeg) < 0 ∨ 64 ≤ (Z26 (0 : Int32).toNatClampNeg).toNatClampNeg)) (lt (upd Z26 (Z26 (0 : Int32).toNatClampNeg).toNatClampNeg v27) fun Z29 => lt ((y8_44 - z0_44)) fun v30 => lt (((vh_44 (1 : Int32).toNatClampNeg) - z0_44)) fun v31 => lt (upd vh_44 (1 : Int32).toNatClampNeg v31) fun Z32 => (if (Z32 (1 : Int32).toNatClampNeg) = 0 then f_L_grind_J108 r23 y5_23 y6_23 y7_23 v30 (1 : Int32) vg_44 vu_44 Z32 Z29 ve_44 else f_L_grind_J108 r23 y5_23 y6_23 y7_23 v30 (0 : Int32) vg_44 vu_44 Z32 Z29 ve_44))
noncomputable def f_L_grind_L23 (y5_23 : Int32) (y6_23 : Int32) (y7_23 : Int32) : Nat → Int32 → (Nat → Int32) → (Nat → Int32) → (Nat → Int32) → (Nat → Int32) → (Nat → Int32) → Option ((Nat → Int32) × (Nat → Int32) × (Nat → Int32) × (Nat → Int32) × (Nat → Int32))
  | 0, _, _, _, _, _, _ => none
  | fu + 1, y8_23, vg_23, vu_23, vh_23, vc_23, ve_23 => (if y8_23 ≤ 0 then lt ((((4 : Int32) * y5_23) + (1 : Int32))) fun v5 => gd (¬ (v5 < 0 ∨ 8 ≤ v5.toNatClampNeg)) (lt (((vu_23 v5.toNatClampNeg) + (y6_23 / (4 : Int32)))) fun v7 => gd (¬ (v5 < 0 ∨ 8 ≤ v5.toNatClampNeg)) (lt (upd vu_23 v5.toNatClampNeg v7) fun Z9 => gd (¬ ((((4 : Int32) * y5_23) + (1 : Int32)) < 0 ∨ 8 ≤ (((4 : Int32) * y5_23) + (1 : Int32)).toNatClampNeg)) ((if (300 : Int32) ≤ (Z9 (((4 : Int32) * y5_23) + (1 : Int32)).toNatClampNeg) then f_L_grind_J211 y5_23 y6_23 (300 : Int32) (((4 : Int32) * y5_23) + (1 : Int32)) vg_23 Z9 vh_23 vc_23 ve_23 else gd (¬ ((((4 : Int32) * y5_23) + (1 : Int32)) < 0 ∨ 8 ≤ (((4 : Int32) * y5_23) + (1 : Int32)).toNatClampNeg)) (f_L_grind_J211 y5_23 y6_23 (Z9 (((4 : Int32) * y5_23) + (1 : Int32)).toNatClampNeg) (((4 : Int32) * y5_23) + (1 : Int32)) vg_23 Z9 vh_23 vc_23 ve_23))))) else (if (vh_23 (1 : Int32).toNatClampNeg) ≤ y8_23 then f_L_grind_J44 (f_L_grind_L23 y5_23 y6_23 y7_23 fu) y5_23 y6_23 y7_23 y8_23 (vh_23 (1 : Int32).toNatClampNeg) vg_23 vu_23 vh_23 vc_23 ve_23 else f_L_grind_J44 (f_L_grind_L23 y5_23 y6_23 y7_23 fu) y5_23 y6_23 y7_23 y8_23 y8_23 vg_23 vu_23 vh_23 vc_23 ve_23))
noncomputable def f_L_grind (x5 : Int32) (x6 : Int32) (vg : Nat → Int32) (vu : Nat → Int32) (vh : Nat → Int32) (vc : Nat → Int32) (ve : Nat → Int32) : Option ((Nat → Int32) × (Nat → Int32) × (Nat → Int32) × (Nat → Int32) × (Nat → Int32)) := gd (¬ (((4 : Int32) * x5) < 0 ∨ 8 ≤ ((4 : Int32) * x5).toNatClampNeg)) (gd (¬ ((((4 : Int32) * x5) + (1 : Int32)) < 0 ∨ 8 ≤ (((4 : Int32) * x5) + (1 : Int32)).toNatClampNeg)) ((f_L_gap (vu ((4 : Int32) * x5).toNatClampNeg) (vu (((4 : Int32) * x5) + (1 : Int32)).toNatClampNeg)).bind fun q3 => f_L_grind_L23 x5 x6 q3 FU x6 vg vu vh vc ve))
noncomputable def f_L_brew_L4 (vg : Nat → Int32) (ve : Nat → Int32) : Nat → Int32 → Int32 → Option (Int32)
  | 0, _, _ => none
  | fu + 1, y2_4, y3_4 => (if (ve (0 : Int32).toNatClampNeg) < y3_4 then (f_L_amounts ve).bind fun q2 => gd (¬ q2 = 0) (some (y2_4 / q2)) else gd (¬ (y3_4 < 0 ∨ 64 ≤ y3_4.toNatClampNeg)) (gd (¬ (y3_4 < 0 ∨ 64 ≤ y3_4.toNatClampNeg)) ((f_L_flow (ve y3_4.toNatClampNeg) vg).bind fun q6 => lt ((y2_4 + (((ve y3_4.toNatClampNeg) - (ve y3_4.toNatClampNeg) / (1000 : Int32) * (1000 : Int32)) * q6))) fun v7 => lt (y3_4 + (1 : Int32)) fun v8 => (f_L_brew_L4 vg ve fu) v7 v8)))
noncomputable def f_L_brew (vg : Nat → Int32) (ve : Nat → Int32) : Option (Int32) := f_L_brew_L4 vg ve FU (0 : Int32) (1 : Int32)
noncomputable def f_L_correct_J48 (vg : Nat → Int32) (y2_48 : Int32) (z0_48 : Int32) (z1_48 : Int32) (vu_48 : Nat → Int32) : Option ((Nat → Int32)) := gd (¬ (z1_48 < 0 ∨ 8 ≤ z1_48.toNatClampNeg)) (lt (upd vu_48 z1_48.toNatClampNeg z0_48) fun Z7 => lt ((((4 : Int32) * y2_48) + (3 : Int32))) fun v8 => gd (¬ (v8 < 0 ∨ 8 ≤ v8.toNatClampNeg)) (lt (((Z7 v8.toNatClampNeg) + (1 : Int32))) fun v10 => gd (¬ (v8 < 0 ∨ 8 ≤ v8.toNatClampNeg)) (lt (upd Z7 v8.toNatClampNeg v10) fun Z12 => some Z12)))
noncomputable def f_L_correct (x2 : Int32) (x3 : Int32) (vg : Nat → Int32) (vu : Nat → Int32) : Option ((Nat → Int32)) := gd (¬ (((4 : Int32) * x2) < 0 ∨ 8 ≤ ((4 : Int32) * x2).toNatClampNeg)) (gd (¬ (vg (7 : Int32).toNatClampNeg) = 0) (lt (((((vu ((4 : Int32) * x2).toNatClampNeg) * x3) + ((vg (7 : Int32).toNatClampNeg) / (2 : Int32))) / (vg (7 : Int32).toNatClampNeg))) fun v3 => (if v3 ≤ (60 : Int32) then (if v3 ≤ 0 then f_L_correct_J48 vg x2 (1 : Int32) ((4 : Int32) * x2) vu else f_L_correct_J48 vg x2 v3 ((4 : Int32) * x2) vu) else f_L_correct_J48 vg x2 (60 : Int32) ((4 : Int32) * x2) vu)))
noncomputable def f_L_shoots_J345 (y6_345 : Int32) (vg_345 : Nat → Int32) (vu_345 : Nat → Int32) (ve_345 : Nat → Int32) (vt_345 : Nat → Int32) (vx_345 : Nat → Int32) (og_345 : Sp) : Option (Int32 × (Nat → Int32) × (Nat → Int32) × (Nat → Int32) × (Nat → Int32) × (Nat → Int32) × Sp) := (f_L_pass (y6_345 / (10 : Int32)) vg_345 vu_345).bind fun q60 => (Q_shot og_345).bind fun q61 => (if q61.1 = y6_345 then some ((1 : Int32), q60.2.1, q60.2.2, ve_345, vt_345, vx_345, q61.2) else some ((0 : Int32), q60.2.1, q60.2.2, ve_345, vt_345, vx_345, q61.2))
noncomputable def f_L_shoots_J319 (y6_319 : Int32) (y10_319 : Int32) (z0_319 : Int32) (z1_319 : Int32) (z2_319 : Int32) (vg_319 : Nat → Int32) (vu_319 : Nat → Int32) (ve_319 : Nat → Int32) (vt_319 : Nat → Int32) (vx_319 : Nat → Int32) (og_319 : Sp) : Option (Int32 × (Nat → Int32) × (Nat → Int32) × (Nat → Int32) × (Nat → Int32) × (Nat → Int32) × Sp) := lt ((z1_319 + z0_319)) fun v54 => gd (¬ (z2_319 < 0 ∨ 15 ≤ z2_319.toNatClampNeg)) (lt (upd vg_319 z2_319.toNatClampNeg v54) fun Z56 => (if y10_319 = 0 then (if (Z56 (12 : Int32).toNatClampNeg) = (1 : Int32) then (f_L_correct (vx_319 (0 : Int32).toNatClampNeg) y6_319 Z56 vu_319).bind fun q59 => f_L_shoots_J345 y6_319 Z56 q59 ve_319 vt_319 vx_319 og_319 else f_L_shoots_J345 y6_319 Z56 vu_319 ve_319 vt_319 vx_319 og_319) else f_L_shoots_J345 y6_319 Z56 vu_319 ve_319 vt_319 vx_319 og_319))
noncomputable def f_L_shoots_J302 (y6_302 : Int32) (z0_302 : Int32) (vg_302 : Nat → Int32) (vu_302 : Nat → Int32) (ve_302 : Nat → Int32) (vt_302 : Nat → Int32) (vx_302 : Nat → Int32) (og_302 : Sp) : Option (Int32 × (Nat → Int32) × (Nat → Int32) × (Nat → Int32) × (Nat → Int32) × (Nat → Int32) × Sp) := (if z0_302 = 0 then f_L_shoots_J319 y6_302 z0_302 (0 : Int32) (vg_302 (6 : Int32).toNatClampNeg) (6 : Int32) vg_302 vu_302 ve_302 vt_302 vx_302 og_302 else f_L_shoots_J319 y6_302 z0_302 (1 : Int32) (vg_302 (6 : Int32).toNatClampNeg) (6 : Int32) vg_302 vu_302 ve_302 vt_302 vx_302 og_302)
noncomputable def f_L_shoots_J263 (y6_263 : Int32) (y7_263 : Int32) (z0_263 : Int32) (z1_263 : Int32) (z2_263 : Int32) (vg_263 : Nat → Int32) (vu_263 : Nat → Int32) (ve_263 : Nat → Int32) (vt_263 : Nat → Int32) (vx_263 : Nat → Int32) (og_263 : Sp) : Option (Int32 × (Nat → Int32) × (Nat → Int32) × (Nat → Int32) × (Nat → Int32) × (Nat → Int32) × Sp) := lt ((z1_263 + z0_263)) fun v43 => gd (¬ (z2_263 < 0 ∨ 15 ≤ z2_263.toNatClampNeg)) (lt (upd vg_263 z2_263.toNatClampNeg v43) fun Z45 => lt (((Z45 (5 : Int32).toNatClampNeg) + (1 : Int32))) fun v46 => lt (upd Z45 (5 : Int32).toNatClampNeg v46) fun Z47 => lt (((Z47 (3 : Int32).toNatClampNeg) + y7_263)) fun v48 => lt (upd Z47 (3 : Int32).toNatClampNeg v48) fun Z49 => lt (upd ve_263 (0 : Int32).toNatClampNeg (0 : Int32)) fun Z50 => (f_L_away y6_263 Z49).bind fun q51 => (if (Z49 (8 : Int32).toNatClampNeg) < q51 then f_L_shoots_J302 y6_263 (0 : Int32) Z49 vu_263 Z50 vt_263 vx_263 og_263 else f_L_shoots_J302 y6_263 (1 : Int32) Z49 vu_263 Z50 vt_263 vx_263 og_263))
noncomputable def f_L_shoots_J229 (y6_229 : Int32) (y7_229 : Int32) (z0_229 : Int32) (z1_229 : Int32) (vg_229 : Nat → Int32) (vu_229 : Nat → Int32) (ve_229 : Nat → Int32) (vt_229 : Nat → Int32) (vx_229 : Nat → Int32) (og_229 : Sp) : Option (Int32 × (Nat → Int32) × (Nat → Int32) × (Nat → Int32) × (Nat → Int32) × (Nat → Int32) × Sp) := gd (¬ (z1_229 < 0 ∨ 48 ≤ z1_229.toNatClampNeg)) (lt (upd vx_229 z1_229.toNatClampNeg z0_229) fun Z37 => lt ((vg_229 (0 : Int32).toNatClampNeg)) fun v38 => lt (upd Z37 (2 : Int32).toNatClampNeg v38) fun Z39 => lt ((ve_229 (0 : Int32).toNatClampNeg)) fun v40 => lt (upd Z39 (3 : Int32).toNatClampNeg v40) fun Z41 => (if (12 : Int32) ≤ (vg_229 (14 : Int32).toNatClampNeg) then f_L_shoots_J263 y6_229 y7_229 (0 : Int32) (vg_229 (14 : Int32).toNatClampNeg) (14 : Int32) vg_229 vu_229 ve_229 vt_229 Z41 og_229 else f_L_shoots_J263 y6_229 y7_229 (1 : Int32) (vg_229 (14 : Int32).toNatClampNeg) (14 : Int32) vg_229 vu_229 ve_229 vt_229 Z41 og_229))
noncomputable def f_L_shoots_J210 (y6_210 : Int32) (y7_210 : Int32) (y9_210 : Int32) (z0_210 : Int32) (z1_210 : Int32) (vg_210 : Nat → Int32) (vu_210 : Nat → Int32) (ve_210 : Nat → Int32) (vt_210 : Nat → Int32) (vx_210 : Nat → Int32) (og_210 : Sp) : Option (Int32 × (Nat → Int32) × (Nat → Int32) × (Nat → Int32) × (Nat → Int32) × (Nat → Int32) × Sp) := gd (¬ (z1_210 < 0 ∨ 48 ≤ z1_210.toNatClampNeg)) (lt (upd vx_210 z1_210.toNatClampNeg z0_210) fun Z34 => (if y9_210 < (y7_210 - y9_210) then f_L_shoots_J229 y6_210 y7_210 (1 : Int32) (1 : Int32) vg_210 vu_210 ve_210 vt_210 Z34 og_210 else f_L_shoots_J229 y6_210 y7_210 (0 : Int32) (1 : Int32) vg_210 vu_210 ve_210 vt_210 Z34 og_210))
noncomputable def f_L_shoots_L149 (y6_149 : Int32) (y7_149 : Int32) (y8_149 : Int32) (y9_149 : Int32) : Nat → Int32 → (Nat → Int32) → (Nat → Int32) → (Nat → Int32) → (Nat → Int32) → (Nat → Int32) → Sp → Option (Int32 × (Nat → Int32) × (Nat → Int32) × (Nat → Int32) × (Nat → Int32) × (Nat → Int32) × Sp)
  | 0, _, _, _, _, _, _, _ => none
  | fu + 1, y10_149, vg_149, vu_149, ve_149, vt_149, vx_149, og_149 => (if y10_149 ≤ (2 : Int32) then lt ((vg_149 (5 : Int32).toNatClampNeg)) fun v21 => lt (upd vt_149 (0 : Int32).toNatClampNeg v21) fun Z22 => lt (upd Z22 (1 : Int32).toNatClampNeg y6_149) fun Z23 => lt (upd Z23 (2 : Int32).toNatClampNeg y7_149) fun Z24 => (if y8_149 < (y7_149 - y8_149) then f_L_shoots_J210 y6_149 y7_149 y9_149 (1 : Int32) (0 : Int32) vg_149 vu_149 ve_149 Z24 vx_149 og_149 else f_L_shoots_J210 y6_149 y7_149 y9_149 (0 : Int32) (0 : Int32) vg_149 vu_149 ve_149 Z24 vx_149 og_149) else gd (¬ ((y10_149 - (3 : Int32)) < 0 ∨ 36 ≤ (y10_149 - (3 : Int32)).toNatClampNeg)) (lt ((vt_149 (y10_149 - (3 : Int32)).toNatClampNeg)) fun v27 => gd (¬ (y10_149 < 0 ∨ 36 ≤ y10_149.toNatClampNeg)) (lt (upd vt_149 y10_149.toNatClampNeg v27) fun Z29 => lt (y10_149 + (-1 : Int32)) fun v30 => (f_L_shoots_L149 y6_149 y7_149 y8_149 y9_149 fu) v30 vg_149 vu_149 ve_149 Z29 vx_149 og_149)))
noncomputable def f_L_shoots_L121 (y6_121 : Int32) (y7_121 : Int32) (y8_121 : Int32) (y9_121 : Int32) : Nat → Int32 → (Nat → Int32) → (Nat → Int32) → (Nat → Int32) → (Nat → Int32) → (Nat → Int32) → Sp → Option (Int32 × (Nat → Int32) × (Nat → Int32) × (Nat → Int32) × (Nat → Int32) × (Nat → Int32) × Sp)
  | 0, _, _, _, _, _, _, _ => none
  | fu + 1, y10_121, vg_121, vu_121, ve_121, vt_121, vx_121, og_121 => (if y10_121 ≤ (3 : Int32) then f_L_shoots_L149 y6_121 y7_121 y8_121 y9_121 FU (35 : Int32) vg_121 vu_121 ve_121 vt_121 vx_121 og_121 else gd (¬ ((y10_121 - (4 : Int32)) < 0 ∨ 48 ≤ (y10_121 - (4 : Int32)).toNatClampNeg)) (lt ((vx_121 (y10_121 - (4 : Int32)).toNatClampNeg)) fun v12 => gd (¬ (y10_121 < 0 ∨ 48 ≤ y10_121.toNatClampNeg)) (lt (upd vx_121 y10_121.toNatClampNeg v12) fun Z14 => lt (y10_121 + (-1 : Int32)) fun v15 => (f_L_shoots_L121 y6_121 y7_121 y8_121 y9_121 fu) v15 vg_121 vu_121 ve_121 vt_121 Z14 og_121)))
noncomputable def f_L_shoots_J108 (r43 : Int32 → Int32 → Int32 → (Nat → Int32) → (Nat → Int32) → (Nat → Int32) → (Nat → Int32) → (Nat → Int32) → Sp → Option (Int32 × (Nat → Int32) × (Nat → Int32) × (Nat → Int32) × (Nat → Int32) × (Nat → Int32) × Sp)) (y6_43 : Int32) (y7_43 : Int32) (y8_108 : Int32) (y10_108 : Int32) (z0_108 : Int32) (z1_108 : Int32) (vg_108 : Nat → Int32) (vu_108 : Nat → Int32) (ve_108 : Nat → Int32) (vt_108 : Nat → Int32) (vx_108 : Nat → Int32) (og_108 : Sp) : Option (Int32 × (Nat → Int32) × (Nat → Int32) × (Nat → Int32) × (Nat → Int32) × (Nat → Int32) × Sp) := lt ((z1_108 + z0_108)) fun v31 => lt (y10_108 + (1 : Int32)) fun v32 => r43 y8_108 v31 v32 vg_108 vu_108 ve_108 vt_108 vx_108 og_108
noncomputable def f_L_shoots_J78 (r43 : Int32 → Int32 → Int32 → (Nat → Int32) → (Nat → Int32) → (Nat → Int32) → (Nat → Int32) → (Nat → Int32) → Sp → Option (Int32 × (Nat → Int32) × (Nat → Int32) × (Nat → Int32) × (Nat → Int32) × (Nat → Int32) × Sp)) (y6_43 : Int32) (y7_43 : Int32) (y9_78 : Int32) (y10_78 : Int32) (z0_78 : Int32) (z1_78 : Int32) (vg_78 : Nat → Int32) (vu_78 : Nat → Int32) (ve_78 : Nat → Int32) (vt_78 : Nat → Int32) (vx_78 : Nat → Int32) (og_78 : Sp) : Option (Int32 × (Nat → Int32) × (Nat → Int32) × (Nat → Int32) × (Nat → Int32) × (Nat → Int32) × Sp) := lt ((z1_78 + z0_78)) fun v16 => gd (¬ (y10_78 < 0 ∨ 64 ≤ y10_78.toNatClampNeg)) ((if (((ve_78 y10_78.toNatClampNeg) / (1000 : Int32)) - ((ve_78 y10_78.toNatClampNeg) / (1000 : Int32)) / (2 : Int32) * (2 : Int32)) = 0 then gd (¬ (y10_78 < 0 ∨ 64 ≤ y10_78.toNatClampNeg)) (f_L_shoots_J108 r43 y6_43 y7_43 v16 y10_78 ((ve_78 y10_78.toNatClampNeg) - (ve_78 y10_78.toNatClampNeg) / (1000 : Int32) * (1000 : Int32)) y9_78 vg_78 vu_78 ve_78 vt_78 vx_78 og_78) else f_L_shoots_J108 r43 y6_43 y7_43 v16 y10_78 (0 : Int32) y9_78 vg_78 vu_78 ve_78 vt_78 vx_78 og_78))
noncomputable def f_L_shoots_L43 (y6_43 : Int32) (y7_43 : Int32) : Nat → Int32 → Int32 → Int32 → (Nat → Int32) → (Nat → Int32) → (Nat → Int32) → (Nat → Int32) → (Nat → Int32) → Sp → Option (Int32 × (Nat → Int32) × (Nat → Int32) × (Nat → Int32) × (Nat → Int32) × (Nat → Int32) × Sp)
  | 0, _, _, _, _, _, _, _, _, _ => none
  | fu + 1, y8_43, y9_43, y10_43, vg_43, vu_43, ve_43, vt_43, vx_43, og_43 => (if (ve_43 (0 : Int32).toNatClampNeg) < y10_43 then f_L_shoots_L121 y6_43 y7_43 y8_43 y9_43 FU (47 : Int32) vg_43 vu_43 ve_43 vt_43 vx_43 og_43 else gd (¬ (y10_43 < 0 ∨ 64 ≤ y10_43.toNatClampNeg)) ((if (((ve_43 y10_43.toNatClampNeg) / (2000 : Int32)) - ((ve_43 y10_43.toNatClampNeg) / (2000 : Int32)) / (2 : Int32) * (2 : Int32)) = 0 then gd (¬ (y10_43 < 0 ∨ 64 ≤ y10_43.toNatClampNeg)) (f_L_shoots_J78 (f_L_shoots_L43 y6_43 y7_43 fu) y6_43 y7_43 y9_43 y10_43 ((ve_43 y10_43.toNatClampNeg) - (ve_43 y10_43.toNatClampNeg) / (1000 : Int32) * (1000 : Int32)) y8_43 vg_43 vu_43 ve_43 vt_43 vx_43 og_43) else f_L_shoots_J78 (f_L_shoots_L43 y6_43 y7_43 fu) y6_43 y7_43 y9_43 y10_43 (0 : Int32) y8_43 vg_43 vu_43 ve_43 vt_43 vx_43 og_43)))
noncomputable def f_L_shoots (vg : Nat → Int32) (vu : Nat → Int32) (ve : Nat → Int32) (vt : Nat → Int32) (vx : Nat → Int32) (og : Sp) : Option (Int32 × (Nat → Int32) × (Nat → Int32) × (Nat → Int32) × (Nat → Int32) × (Nat → Int32) × Sp) := (if (ve (0 : Int32).toNatClampNeg) = 0 then (Q_shot og).bind fun q4 => (if q4.1 = (-1000002 : Int32) then some ((1 : Int32), vg, vu, ve, vt, vx, q4.2) else some ((0 : Int32), vg, vu, ve, vt, vx, q4.2)) else (f_L_brew vg ve).bind fun q2 => (f_L_amounts ve).bind fun q3 => f_L_shoots_L43 q2 q3 FU (0 : Int32) (0 : Int32) (1 : Int32) vg vu ve vt vx og)
noncomputable def f_L_purges (vg : Nat → Int32) (vc : Nat → Int32) (og : Sp) : Option (Int32 × (Nat → Int32) × (Nat → Int32) × Sp) := (f_L_amounts vc).bind fun q1 => lt (((vg (4 : Int32).toNatClampNeg) + q1)) fun v2 => lt (upd vg (4 : Int32).toNatClampNeg v2) fun Z3 => lt (upd vc (0 : Int32).toNatClampNeg (0 : Int32)) fun Z4 => (Q_purge og).bind fun q5 => (if q5.1 = q1 then some ((1 : Int32), Z3, Z4, q5.2) else some ((0 : Int32), Z3, Z4, q5.2))
noncomputable def f_L_acts_J708 (y11_708 : Int32) (y12_708 : Int32) (z0_708 : Int32) (z1_708 : Int32) (vg_708 : Nat → Int32) (vu_708 : Nat → Int32) (vh_708 : Nat → Int32) (vc_708 : Nat → Int32) (ve_708 : Nat → Int32) (vt_708 : Nat → Int32) (vx_708 : Nat → Int32) (og_708 : Sp) : Option (Int32 × (Nat → Int32) × (Nat → Int32) × (Nat → Int32) × (Nat → Int32) × (Nat → Int32) × (Nat → Int32) × (Nat → Int32) × Sp) := gd (¬ (z1_708 < 0 ∨ 15 ≤ z1_708.toNatClampNeg)) (lt (upd vg_708 z1_708.toNatClampNeg z0_708) fun Z49 => gd (¬ (((7 : Int32) + y11_708) < 0 ∨ 15 ≤ ((7 : Int32) + y11_708).toNatClampNeg)) ((Q_set y11_708 (Z49 ((7 : Int32) + y11_708).toNatClampNeg) og_708).bind fun q51 => (if q51.1 = y12_708 then some ((1 : Int32), Z49, vu_708, vh_708, vc_708, ve_708, vt_708, vx_708, q51.2) else some ((0 : Int32), Z49, vu_708, vh_708, vc_708, ve_708, vt_708, vx_708, q51.2))))
noncomputable def f_L_acts_J506 (z0_506 : Int32) (z1_506 : Int32) (z2_506 : Int32) (vg_506 : Nat → Int32) (vu_506 : Nat → Int32) (vh_506 : Nat → Int32) (vc_506 : Nat → Int32) (ve_506 : Nat → Int32) (vt_506 : Nat → Int32) (vx_506 : Nat → Int32) (og_506 : Sp) : Option (Int32 × (Nat → Int32) × (Nat → Int32) × (Nat → Int32) × (Nat → Int32) × (Nat → Int32) × (Nat → Int32) × (Nat → Int32) × Sp) := gd (¬ z0_506 = 0) (lt ((z2_506 + (z1_506 - z1_506 / z0_506 * z0_506))) fun v54 => (Q_rest v54 og_506).bind fun q55 => (f_L_pass v54 vg_506 vu_506).bind fun q56 => (if q55.1 = q56.1 then some ((1 : Int32), q56.2.1, q56.2.2, vh_506, vc_506, ve_506, vt_506, vx_506, q55.2) else some ((0 : Int32), q56.2.1, q56.2.2, vh_506, vc_506, ve_506, vt_506, vx_506, q55.2)))
noncomputable def f_L_acts_J299 (y11_299 : Int32) (z0_299 : Int32) (z1_299 : Int32) (z2_299 : Int32) (vg_299 : Nat → Int32) (vu_299 : Nat → Int32) (vh_299 : Nat → Int32) (vc_299 : Nat → Int32) (ve_299 : Nat → Int32) (vt_299 : Nat → Int32) (vx_299 : Nat → Int32) (og_299 : Sp) : Option (Int32 × (Nat → Int32) × (Nat → Int32) × (Nat → Int32) × (Nat → Int32) × (Nat → Int32) × (Nat → Int32) × (Nat → Int32) × Sp) := gd (¬ z0_299 = 0) (lt ((z2_299 + (z1_299 - z1_299 / z0_299 * z0_299))) fun v59 => (f_L_can v59 vg_299 vh_299 vc_299 ve_299).bind fun q60 => (if 0 ≤ q60 then (f_L_grind y11_299 v59 vg_299 vu_299 vh_299 vc_299 ve_299).bind fun q62 => (f_L_pass ((v59 + (9 : Int32)) / (10 : Int32)) q62.1 q62.2.1).bind fun q63 => (Q_grind y11_299 v59 og_299).bind fun q64 => (if q64.1 = q60 then some ((1 : Int32), q63.2.1, q63.2.2, q62.2.2.1, q62.2.2.2.1, q62.2.2.2.2, vt_299, vx_299, q64.2) else some ((0 : Int32), q63.2.1, q63.2.2, q62.2.2.1, q62.2.2.2.1, q62.2.2.2.2, vt_299, vx_299, q64.2)) else (Q_grind y11_299 v59 og_299).bind fun q66 => (if q66.1 = q60 then some ((1 : Int32), vg_299, vu_299, vh_299, vc_299, ve_299, vt_299, vx_299, q66.2) else some ((0 : Int32), vg_299, vu_299, vh_299, vc_299, ve_299, vt_299, vx_299, q66.2))))
noncomputable def f_L_acts_J235 (y11_235 : Int32) (y12_235 : Int32) (vg_235 : Nat → Int32) (vu_235 : Nat → Int32) (vh_235 : Nat → Int32) (vc_235 : Nat → Int32) (ve_235 : Nat → Int32) (vt_235 : Nat → Int32) (vx_235 : Nat → Int32) (og_235 : Sp) : Option (Int32 × (Nat → Int32) × (Nat → Int32) × (Nat → Int32) × (Nat → Int32) × (Nat → Int32) × (Nat → Int32) × (Nat → Int32) × Sp) := lt (((vg_235 (1 : Int32).toNatClampNeg) + y12_235)) fun v91 => lt (upd vg_235 (1 : Int32).toNatClampNeg v91) fun Z92 => (Q_fill y11_235 y12_235 og_235).bind fun q93 => (f_L_hopper Z92 vh_235).bind fun q94 => (if q93.1 = q94 then some ((1 : Int32), Z92, vu_235, vh_235, vc_235, ve_235, vt_235, vx_235, q93.2) else some ((0 : Int32), Z92, vu_235, vh_235, vc_235, ve_235, vt_235, vx_235, q93.2))
noncomputable def f_L_acts_J163 (y11_163 : Int32) (y12_163 : Int32) (vg_163 : Nat → Int32) (vu_163 : Nat → Int32) (vh_163 : Nat → Int32) (vc_163 : Nat → Int32) (ve_163 : Nat → Int32) (vt_163 : Nat → Int32) (vx_163 : Nat → Int32) (og_163 : Sp) : Option (Int32 × (Nat → Int32) × (Nat → Int32) × (Nat → Int32) × (Nat → Int32) × (Nat → Int32) × (Nat → Int32) × (Nat → Int32) × Sp) := (Q_fill y11_163 y12_163 og_163).bind fun q89 => (if q89.1 = (-1000003 : Int32) then some ((1 : Int32), vg_163, vu_163, vh_163, vc_163, ve_163, vt_163, vx_163, q89.2) else some ((0 : Int32), vg_163, vu_163, vh_163, vc_163, ve_163, vt_163, vx_163, q89.2))
noncomputable def f_L_acts_J149 (y11_149 : Int32) (y12_149 : Int32) (y13_149 : Int32) (vg_149 : Nat → Int32) (vu_149 : Nat → Int32) (vh_149 : Nat → Int32) (vc_149 : Nat → Int32) (ve_149 : Nat → Int32) (vt_149 : Nat → Int32) (vx_149 : Nat → Int32) (og_149 : Sp) : Option (Int32 × (Nat → Int32) × (Nat → Int32) × (Nat → Int32) × (Nat → Int32) × (Nat → Int32) × (Nat → Int32) × (Nat → Int32) × Sp) := (f_L_hopper vg_149 vh_149).bind fun q75 => (if (q75 + y12_149) ≤ (4000 : Int32) then (if y13_149 = 0 then gd (¬ (((2 : Int32) * (vg_149 (13 : Int32).toNatClampNeg)) < 0 ∨ 12 ≤ ((2 : Int32) * (vg_149 (13 : Int32).toNatClampNeg)).toNatClampNeg)) (lt (upd vh_149 ((2 : Int32) * (vg_149 (13 : Int32).toNatClampNeg)).toNatClampNeg y11_149) fun Z79 => gd (¬ ((((2 : Int32) * (vg_149 (13 : Int32).toNatClampNeg)) + (1 : Int32)) < 0 ∨ 12 ≤ (((2 : Int32) * (vg_149 (13 : Int32).toNatClampNeg)) + (1 : Int32)).toNatClampNeg)) (lt (upd Z79 (((2 : Int32) * (vg_149 (13 : Int32).toNatClampNeg)) + (1 : Int32)).toNatClampNeg y12_149) fun Z81 => lt (((vg_149 (13 : Int32).toNatClampNeg) + (1 : Int32))) fun v82 => lt (upd vg_149 (13 : Int32).toNatClampNeg v82) fun Z83 => f_L_acts_J235 y11_149 y12_149 Z83 vu_149 Z81 vc_149 ve_149 vt_149 vx_149 og_149)) else lt ((((2 : Int32) * (vg_149 (13 : Int32).toNatClampNeg)) - (1 : Int32))) fun v84 => gd (¬ (v84 < 0 ∨ 12 ≤ v84.toNatClampNeg)) (lt (((vh_149 v84.toNatClampNeg) + y12_149)) fun v86 => gd (¬ (v84 < 0 ∨ 12 ≤ v84.toNatClampNeg)) (lt (upd vh_149 v84.toNatClampNeg v86) fun Z88 => f_L_acts_J235 y11_149 y12_149 vg_149 vu_149 Z88 vc_149 ve_149 vt_149 vx_149 og_149))) else f_L_acts_J163 y11_149 y12_149 vg_149 vu_149 vh_149 vc_149 ve_149 vt_149 vx_149 og_149)
noncomputable def f_L_acts_J133 (y11_133 : Int32) (y12_133 : Int32) (z0_133 : Int32) (vg_133 : Nat → Int32) (vu_133 : Nat → Int32) (vh_133 : Nat → Int32) (vc_133 : Nat → Int32) (ve_133 : Nat → Int32) (vt_133 : Nat → Int32) (vx_133 : Nat → Int32) (og_133 : Sp) : Option (Int32 × (Nat → Int32) × (Nat → Int32) × (Nat → Int32) × (Nat → Int32) × (Nat → Int32) × (Nat → Int32) × (Nat → Int32) × Sp) := (if z0_133 = 0 then (if (vg_133 (13 : Int32).toNatClampNeg) = (6 : Int32) then f_L_acts_J163 y11_133 y12_133 vg_133 vu_133 vh_133 vc_133 ve_133 vt_133 vx_133 og_133 else f_L_acts_J149 y11_133 y12_133 z0_133 vg_133 vu_133 vh_133 vc_133 ve_133 vt_133 vx_133 og_133) else f_L_acts_J149 y11_133 y12_133 z0_133 vg_133 vu_133 vh_133 vc_133 ve_133 vt_133 vx_133 og_133)
noncomputable def f_L_acts_J132 (y11_132 : Int32) (y12_132 : Int32) (vg_132 : Nat → Int32) (vu_132 : Nat → Int32) (vh_132 : Nat → Int32) (vc_132 : Nat → Int32) (ve_132 : Nat → Int32) (vt_132 : Nat → Int32) (vx_132 : Nat → Int32) (og_132 : Sp) : Option (Int32 × (Nat → Int32) × (Nat → Int32) × (Nat → Int32) × (Nat → Int32) × (Nat → Int32) × (Nat → Int32) × (Nat → Int32) × Sp) := f_L_acts_J133 y11_132 y12_132 (0 : Int32) vg_132 vu_132 vh_132 vc_132 ve_132 vt_132 vx_132 og_132
noncomputable def f_L_acts_J102 (y11_102 : Int32) (z0_102 : Int32) (z1_102 : Int32) (z2_102 : Int32) (vg_102 : Nat → Int32) (vu_102 : Nat → Int32) (vh_102 : Nat → Int32) (vc_102 : Nat → Int32) (ve_102 : Nat → Int32) (vt_102 : Nat → Int32) (vx_102 : Nat → Int32) (og_102 : Sp) : Option (Int32 × (Nat → Int32) × (Nat → Int32) × (Nat → Int32) × (Nat → Int32) × (Nat → Int32) × (Nat → Int32) × (Nat → Int32) × Sp) := gd (¬ z0_102 = 0) (lt ((z2_102 + (z1_102 - z1_102 / z0_102 * z0_102))) fun v69 => (if (vg_102 (13 : Int32).toNatClampNeg) ≤ 0 then f_L_acts_J132 y11_102 v69 vg_102 vu_102 vh_102 vc_102 ve_102 vt_102 vx_102 og_102 else gd (¬ ((((2 : Int32) * (vg_102 (13 : Int32).toNatClampNeg)) - (2 : Int32)) < 0 ∨ 12 ≤ (((2 : Int32) * (vg_102 (13 : Int32).toNatClampNeg)) - (2 : Int32)).toNatClampNeg)) ((if (vh_102 (((2 : Int32) * (vg_102 (13 : Int32).toNatClampNeg)) - (2 : Int32)).toNatClampNeg) = y11_102 then f_L_acts_J133 y11_102 v69 (1 : Int32) vg_102 vu_102 vh_102 vc_102 ve_102 vt_102 vx_102 og_102 else f_L_acts_J132 y11_102 v69 vg_102 vu_102 vh_102 vc_102 ve_102 vt_102 vx_102 og_102))))
noncomputable def f_L_acts (x8 : Int32) (vg : Nat → Int32) (vu : Nat → Int32) (vh : Nat → Int32) (vc : Nat → Int32) (ve : Nat → Int32) (vt : Nat → Int32) (vx : Nat → Int32) (og : Sp) : Option (Int32 × (Nat → Int32) × (Nat → Int32) × (Nat → Int32) × (Nat → Int32) × (Nat → Int32) × (Nat → Int32) × (Nat → Int32) × Sp) := (f_L_low (x8 >>> ((5 : Int32) &&& 31)) (10000000 : Int32)).bind fun q1 => (f_L_low x8 (24 : Int32)).bind fun q2 => (if ((ve (0 : Int32).toNatClampNeg) + (vc (0 : Int32).toNatClampNeg)) ≤ (46 : Int32) then (if (6 : Int32) ≤ q2 then (if (14 : Int32) ≤ q2 then (if (17 : Int32) ≤ q2 then (if q2 = (17 : Int32) then (f_L_purges vg vc og).bind fun q35 => gd (q35.1 = 0 ∨ q35.1 = 1) (some (q35.1, q35.2.1, vu, vh, q35.2.2.1, ve, vt, vx, q35.2.2.2)) else (if q2 = (18 : Int32) then lt ((q1 - q1 / (2 : Int32) * (2 : Int32))) fun v26 => gd (¬ (((4 : Int32) * v26) < 0 ∨ 8 ≤ ((4 : Int32) * v26).toNatClampNeg)) (lt ((vu ((4 : Int32) * v26).toNatClampNeg)) fun v28 => lt (((1 : Int32) + ((q1 / (2 : Int32)) - (q1 / (2 : Int32)) / (60 : Int32) * (60 : Int32)))) fun v29 => gd (¬ (((4 : Int32) * v26) < 0 ∨ 8 ≤ ((4 : Int32) * v26).toNatClampNeg)) (lt (upd vu ((4 : Int32) * v26).toNatClampNeg v29) fun Z31 => gd (¬ (((4 : Int32) * v26) < 0 ∨ 8 ≤ ((4 : Int32) * v26).toNatClampNeg)) ((Q_dial v26 (Z31 ((4 : Int32) * v26).toNatClampNeg) og).bind fun q33 => (if q33.1 = v28 then some ((1 : Int32), vg, Z31, vh, vc, ve, vt, vx, q33.2) else some ((0 : Int32), vg, Z31, vh, vc, ve, vt, vx, q33.2))))) else (if (21 : Int32) ≤ q2 then (if q2 = (21 : Int32) then (if (vg (14 : Int32).toNatClampNeg) = 0 then (Q_correct (q1 - q1 / (2 : Int32) * (2 : Int32)) og).bind fun q23 => (if q23.1 = (-1000002 : Int32) then some ((1 : Int32), vg, vu, vh, vc, ve, vt, vx, q23.2) else some ((0 : Int32), vg, vu, vh, vc, ve, vt, vx, q23.2)) else (f_L_correct (q1 - q1 / (2 : Int32) * (2 : Int32)) (vt (1 : Int32).toNatClampNeg) vg vu).bind fun q19 => (Q_correct (q1 - q1 / (2 : Int32) * (2 : Int32)) og).bind fun q20 => gd (¬ (((4 : Int32) * (q1 - q1 / (2 : Int32) * (2 : Int32))) < 0 ∨ 8 ≤ ((4 : Int32) * (q1 - q1 / (2 : Int32) * (2 : Int32))).toNatClampNeg)) ((if q20.1 = (q19 ((4 : Int32) * (q1 - q1 / (2 : Int32) * (2 : Int32))).toNatClampNeg) then some ((1 : Int32), vg, q19, vh, vc, ve, vt, vx, q20.2) else some ((0 : Int32), vg, q19, vh, vc, ve, vt, vx, q20.2)))) else lt ((q1 - q1 / (6 : Int32) * (6 : Int32))) fun v11 => gd (¬ (((7 : Int32) + v11) < 0 ∨ 15 ≤ ((7 : Int32) + v11).toNatClampNeg)) (lt ((vg ((7 : Int32) + v11).toNatClampNeg)) fun v13 => (if v11 = 0 then f_L_acts_J708 v11 v13 ((100 : Int32) + ((q1 / (6 : Int32)) - (q1 / (6 : Int32)) / (501 : Int32) * (501 : Int32))) ((7 : Int32) + v11) vg vu vh vc ve vt vx og else (if v11 = (1 : Int32) then f_L_acts_J708 v11 v13 ((q1 / (6 : Int32)) - (q1 / (6 : Int32)) / (201 : Int32) * (201 : Int32)) ((7 : Int32) + v11) vg vu vh vc ve vt vx og else (if v11 = (2 : Int32) then f_L_acts_J708 v11 v13 ((q1 / (6 : Int32)) - (q1 / (6 : Int32)) / (101 : Int32) * (101 : Int32)) ((7 : Int32) + v11) vg vu vh vc ve vt vx og else (if (5 : Int32) ≤ v11 then f_L_acts_J708 v11 v13 ((q1 / (6 : Int32)) - (q1 / (6 : Int32)) / (2 : Int32) * (2 : Int32)) ((7 : Int32) + v11) vg vu vh vc ve vt vx og else f_L_acts_J708 v11 v13 ((30 : Int32) + ((q1 / (6 : Int32)) - (q1 / (6 : Int32)) / (271 : Int32) * (271 : Int32))) ((7 : Int32) + v11) vg vu vh vc ve vt vx og)))))) else (if (q1 - q1 / (4 : Int32) * (4 : Int32)) = 0 then f_L_acts_J506 (999 : Int32) q1 (1 : Int32) vg vu vh vc ve vt vx og else f_L_acts_J506 (40 : Int32) q1 (1 : Int32) vg vu vh vc ve vt vx og)))) else (f_L_shoots vg vu ve vt vx og).bind fun q37 => gd (q37.1 = 0 ∨ q37.1 = 1) (some (q37.1, q37.2.1, q37.2.2.1, vh, vc, q37.2.2.2.1, q37.2.2.2.2.1, q37.2.2.2.2.2.1, q37.2.2.2.2.2.2))) else lt ((q1 - q1 / (2 : Int32) * (2 : Int32))) fun v39 => (if (q1 - q1 / (4 : Int32) * (4 : Int32)) = 0 then f_L_acts_J299 v39 (400 : Int32) (q1 / (2 : Int32)) (1 : Int32) vg vu vh vc ve vt vx og else f_L_acts_J299 v39 (130 : Int32) (q1 / (2 : Int32)) (1 : Int32) vg vu vh vc ve vt vx og)) else lt ((q1 - q1 / (2 : Int32) * (2 : Int32))) fun v41 => (if (q1 - q1 / (5 : Int32) * (5 : Int32)) = 0 then f_L_acts_J102 v41 (999 : Int32) (q1 / (2 : Int32)) (1 : Int32) vg vu vh vc ve vt vx og else f_L_acts_J102 v41 (180 : Int32) (q1 / (2 : Int32)) (1 : Int32) vg vu vh vc ve vt vx og)) else (if (ve (0 : Int32).toNatClampNeg) ≤ (vc (0 : Int32).toNatClampNeg) then (f_L_purges vg vc og).bind fun q44 => gd (q44.1 = 0 ∨ q44.1 = 1) (some (q44.1, q44.2.1, vu, vh, q44.2.2.1, ve, vt, vx, q44.2.2.2)) else (f_L_shoots vg vu ve vt vx og).bind fun q46 => gd (q46.1 = 0 ∨ q46.1 = 1) (some (q46.1, q46.2.1, q46.2.2.1, vh, vc, q46.2.2.2.1, q46.2.2.2.2.1, q46.2.2.2.2.2.1, q46.2.2.2.2.2.2))))
noncomputable def f_L_arePortions_J129 (vg : Nat → Int32) (vc : Nat → Int32) (og : Sp) (y2_129 : Int32) (y4_129 : Int32) : Option (Int32) := (if y4_129 = 0 then some (0 : Int32) else (Q_portionOf y2_129 (vc (0 : Int32).toNatClampNeg) (0 : Int32) og).bind fun q17 => (if q17 = (-1000004 : Int32) then (Q_portionOf y2_129 (0 : Int32) (5 : Int32) og).bind fun q19 => (if q19 = (-1000001 : Int32) then (Q_count ((6 : Int32) + y2_129) og).bind fun q21 => (f_L_amounts vc).bind fun q22 => (if q21 = q22 then some (1 : Int32) else some (0 : Int32)) else some (0 : Int32)) else some (0 : Int32)))
noncomputable def f_L_arePortions_J121 (r6 : Int32 → Int32 → Option (Int32)) (vg : Nat → Int32) (vc : Nat → Int32) (og : Sp) (y2_6 : Int32) (y5_121 : Int32) (z0_121 : Int32) : Option (Int32) := lt (y5_121 + (1 : Int32)) fun v24 => r6 z0_121 v24
noncomputable def f_L_arePortions_J120 (r6 : Int32 → Int32 → Option (Int32)) (vg : Nat → Int32) (vc : Nat → Int32) (og : Sp) (y2_6 : Int32) (y5_120 : Int32) : Option (Int32) := f_L_arePortions_J121 r6 vg vc og y2_6 y5_120 (0 : Int32)
noncomputable def f_L_arePortions_L6 (vg : Nat → Int32) (vc : Nat → Int32) (og : Sp) (y2_6 : Int32) : Nat → Int32 → Int32 → Option (Int32)
  | 0, _, _ => none
  | fu + 1, y4_6, y5_6 => (if (vc (0 : Int32).toNatClampNeg) ≤ y5_6 then f_L_arePortions_J129 vg vc og y2_6 y4_6 else (if y4_6 = 0 then f_L_arePortions_J129 vg vc og y2_6 y4_6 else gd (¬ ((y5_6 + (1 : Int32)) < 0 ∨ 64 ≤ (y5_6 + (1 : Int32)).toNatClampNeg)) (lt ((vc (y5_6 + (1 : Int32)).toNatClampNeg)) fun v4 => (Q_portionOf y2_6 y5_6 (0 : Int32) og).bind fun q5 => (if q5 = (v4 - v4 / (1000 : Int32) * (1000 : Int32)) then (Q_portionOf y2_6 y5_6 (1 : Int32) og).bind fun q7 => (if q7 = ((v4 / (1000 : Int32)) - (v4 / (1000 : Int32)) / (2 : Int32) * (2 : Int32)) then (Q_portionOf y2_6 y5_6 (2 : Int32) og).bind fun q9 => (if q9 = ((v4 / (2000 : Int32)) - (v4 / (2000 : Int32)) / (2 : Int32) * (2 : Int32)) then (Q_portionOf y2_6 y5_6 (3 : Int32) og).bind fun q11 => (if q11 = (v4 / (4000 : Int32)) then (Q_portionOf y2_6 y5_6 (4 : Int32) og).bind fun q13 => (f_L_flow v4 vg).bind fun q14 => (if q13 = q14 then f_L_arePortions_J121 (f_L_arePortions_L6 vg vc og y2_6 fu) vg vc og y2_6 y5_6 (1 : Int32) else f_L_arePortions_J120 (f_L_arePortions_L6 vg vc og y2_6 fu) vg vc og y2_6 y5_6) else f_L_arePortions_J120 (f_L_arePortions_L6 vg vc og y2_6 fu) vg vc og y2_6 y5_6) else f_L_arePortions_J120 (f_L_arePortions_L6 vg vc og y2_6 fu) vg vc og y2_6 y5_6) else f_L_arePortions_J120 (f_L_arePortions_L6 vg vc og y2_6 fu) vg vc og y2_6 y5_6) else f_L_arePortions_J120 (f_L_arePortions_L6 vg vc og y2_6 fu) vg vc og y2_6 y5_6))))
noncomputable def f_L_arePortions (x2 : Int32) (vg : Nat → Int32) (vc : Nat → Int32) (og : Sp) : Option (Int32) := f_L_arePortions_L6 vg vc og x2 FU (1 : Int32) (0 : Int32)
noncomputable def f_L_isSo_J624 (vg : Nat → Int32) (vu : Nat → Int32) (vh : Nat → Int32) (vc : Nat → Int32) (ve : Nat → Int32) (vt : Nat → Int32) (vx : Nat → Int32) (og : Sp) (z0_624 : Int32) : Option (Int32) := (if z0_624 = 0 then some (0 : Int32) else (Q_count (0 : Int32) og).bind fun q68 => (if q68 = (vg (0 : Int32).toNatClampNeg) then (Q_count (1 : Int32) og).bind fun q70 => (if q70 = (vg (1 : Int32).toNatClampNeg) then (Q_count (2 : Int32) og).bind fun q72 => (if q72 = (vg (2 : Int32).toNatClampNeg) then (Q_count (3 : Int32) og).bind fun q74 => (if q74 = (vg (3 : Int32).toNatClampNeg) then (Q_count (4 : Int32) og).bind fun q76 => (if q76 = (vg (4 : Int32).toNatClampNeg) then (Q_count (5 : Int32) og).bind fun q78 => (f_L_hopper vg vh).bind fun q79 => (if q78 = q79 then (Q_count (8 : Int32) og).bind fun q81 => (if q81 = (vg (5 : Int32).toNatClampNeg) then (Q_count (9 : Int32) og).bind fun q83 => (if q83 = (vg (6 : Int32).toNatClampNeg) then (Q_count (11 : Int32) og).bind fun q85 => (if q85 = 0 then (Q_shotOf (12 : Int32) (0 : Int32) og).bind fun q87 => (if q87 = (-1000004 : Int32) then some (1 : Int32) else some (0 : Int32)) else some (0 : Int32)) else some (0 : Int32)) else some (0 : Int32)) else some (0 : Int32)) else some (0 : Int32)) else some (0 : Int32)) else some (0 : Int32)) else some (0 : Int32)) else some (0 : Int32)))
noncomputable def f_L_isSo_J623 (vg : Nat → Int32) (vu : Nat → Int32) (vh : Nat → Int32) (vc : Nat → Int32) (ve : Nat → Int32) (vt : Nat → Int32) (vx : Nat → Int32) (og : Sp) : Option (Int32) := f_L_isSo_J624 vg vu vh vc ve vt vx og (0 : Int32)
noncomputable def f_L_isSo_J541 (vg : Nat → Int32) (vu : Nat → Int32) (vh : Nat → Int32) (vc : Nat → Int32) (ve : Nat → Int32) (vt : Nat → Int32) (vx : Nat → Int32) (og : Sp) (y8_541 : Int32) : Option (Int32) := (if y8_541 = 0 then f_L_isSo_J623 vg vu vh vc ve vt vx og else (Q_count (2 : Int32) og).bind fun q48 => (Q_count (3 : Int32) og).bind fun q49 => (Q_count (4 : Int32) og).bind fun q50 => (Q_count (6 : Int32) og).bind fun q51 => (Q_count (7 : Int32) og).bind fun q52 => (if q48 = (((q49 + q50) + q51) + q52) then (Q_count (1 : Int32) og).bind fun q54 => (Q_count (2 : Int32) og).bind fun q55 => (Q_count (5 : Int32) og).bind fun q56 => (if q54 = (q55 + q56) then (Q_burrOf (0 : Int32) (3 : Int32) og).bind fun q58 => (Q_burrOf (1 : Int32) (3 : Int32) og).bind fun q59 => (Q_count (2 : Int32) og).bind fun q60 => (if (q58 + q59) = q60 then f_L_isSo_J624 vg vu vh vc ve vt vx og (1 : Int32) else f_L_isSo_J623 vg vu vh vc ve vt vx og) else f_L_isSo_J623 vg vu vh vc ve vt vx og) else f_L_isSo_J623 vg vu vh vc ve vt vx og))
noncomputable def f_L_isSo_J533 (r497 : Int32 → Int32 → Option (Int32)) (vg : Nat → Int32) (vu : Nat → Int32) (vh : Nat → Int32) (vc : Nat → Int32) (ve : Nat → Int32) (vt : Nat → Int32) (vx : Nat → Int32) (og : Sp) (y9_533 : Int32) (z0_533 : Int32) : Option (Int32) := lt (y9_533 + (1 : Int32)) fun v62 => r497 z0_533 v62
noncomputable def f_L_isSo_L497 (vg : Nat → Int32) (vu : Nat → Int32) (vh : Nat → Int32) (vc : Nat → Int32) (ve : Nat → Int32) (vt : Nat → Int32) (vx : Nat → Int32) (og : Sp) : Nat → Int32 → Int32 → Option (Int32)
  | 0, _, _ => none
  | fu + 1, y8_497, y9_497 => (if (6 : Int32) ≤ y9_497 then f_L_isSo_J541 vg vu vh vc ve vt vx og y8_497 else (if y8_497 = 0 then f_L_isSo_J541 vg vu vh vc ve vt vx og y8_497 else (Q_count ((20 : Int32) + y9_497) og).bind fun q40 => gd (¬ (((7 : Int32) + y9_497) < 0 ∨ 15 ≤ ((7 : Int32) + y9_497).toNatClampNeg)) ((if q40 = (vg ((7 : Int32) + y9_497).toNatClampNeg) then f_L_isSo_J533 (f_L_isSo_L497 vg vu vh vc ve vt vx og fu) vg vu vh vc ve vt vx og y9_497 (1 : Int32) else f_L_isSo_J533 (f_L_isSo_L497 vg vu vh vc ve vt vx og fu) vg vu vh vc ve vt vx og y9_497 (0 : Int32)))))
noncomputable def f_L_isSo_J494 (vg : Nat → Int32) (vu : Nat → Int32) (vh : Nat → Int32) (vc : Nat → Int32) (ve : Nat → Int32) (vt : Nat → Int32) (vx : Nat → Int32) (og : Sp) (y8_494 : Int32) : Option (Int32) := f_L_isSo_L497 vg vu vh vc ve vt vx og FU y8_494 (0 : Int32)
noncomputable def f_L_isSo_J486 (r219 : Int32 → Int32 → Option (Int32)) (vg : Nat → Int32) (vu : Nat → Int32) (vh : Nat → Int32) (vc : Nat → Int32) (ve : Nat → Int32) (vt : Nat → Int32) (vx : Nat → Int32) (og : Sp) (y9_486 : Int32) (z0_486 : Int32) : Option (Int32) := lt (y9_486 + (1 : Int32)) fun v89 => r219 z0_486 v89
noncomputable def f_L_isSo_J485 (r219 : Int32 → Int32 → Option (Int32)) (vg : Nat → Int32) (vu : Nat → Int32) (vh : Nat → Int32) (vc : Nat → Int32) (ve : Nat → Int32) (vt : Nat → Int32) (vx : Nat → Int32) (og : Sp) (y9_485 : Int32) : Option (Int32) := f_L_isSo_J486 r219 vg vu vh vc ve vt vx og y9_485 (0 : Int32)
noncomputable def f_L_isSo_J478 (r219 : Int32 → Int32 → Option (Int32)) (vg : Nat → Int32) (vu : Nat → Int32) (vh : Nat → Int32) (vc : Nat → Int32) (ve : Nat → Int32) (vt : Nat → Int32) (vx : Nat → Int32) (og : Sp) (y9_478 : Int32) (z0_478 : Int32) (z1_478 : Int32) : Option (Int32) := (if z1_478 = z0_478 then f_L_isSo_J486 r219 vg vu vh vc ve vt vx og y9_478 (1 : Int32) else f_L_isSo_J485 r219 vg vu vh vc ve vt vx og y9_478)
noncomputable def f_L_isSo_J448 (r219 : Int32 → Int32 → Option (Int32)) (vg : Nat → Int32) (vu : Nat → Int32) (vh : Nat → Int32) (vc : Nat → Int32) (ve : Nat → Int32) (vt : Nat → Int32) (vx : Nat → Int32) (og : Sp) (y9_448 : Int32) (y10_448 : Int32) (z0_448 : Int32) (z1_448 : Int32) : Option (Int32) := (if z1_448 = z0_448 then (Q_shotOf y9_448 (7 : Int32) og).bind fun q108 => (if y10_448 = 0 then f_L_isSo_J478 r219 vg vu vh vc ve vt vx og y9_448 (-1000004 : Int32) q108 else gd (¬ ((((4 : Int32) * y9_448) + (3 : Int32)) < 0 ∨ 48 ≤ (((4 : Int32) * y9_448) + (3 : Int32)).toNatClampNeg)) (f_L_isSo_J478 r219 vg vu vh vc ve vt vx og y9_448 (vx (((4 : Int32) * y9_448) + (3 : Int32)).toNatClampNeg) q108)) else f_L_isSo_J485 r219 vg vu vh vc ve vt vx og y9_448)
noncomputable def f_L_isSo_J418 (r219 : Int32 → Int32 → Option (Int32)) (vg : Nat → Int32) (vu : Nat → Int32) (vh : Nat → Int32) (vc : Nat → Int32) (ve : Nat → Int32) (vt : Nat → Int32) (vx : Nat → Int32) (og : Sp) (y9_418 : Int32) (y10_418 : Int32) (z0_418 : Int32) (z1_418 : Int32) : Option (Int32) := (if z1_418 = z0_418 then (Q_shotOf y9_418 (6 : Int32) og).bind fun q104 => (if y10_418 = 0 then f_L_isSo_J448 r219 vg vu vh vc ve vt vx og y9_418 y10_418 (-1000004 : Int32) q104 else gd (¬ ((((4 : Int32) * y9_418) + (2 : Int32)) < 0 ∨ 48 ≤ (((4 : Int32) * y9_418) + (2 : Int32)).toNatClampNeg)) (f_L_isSo_J448 r219 vg vu vh vc ve vt vx og y9_418 y10_418 (vx (((4 : Int32) * y9_418) + (2 : Int32)).toNatClampNeg) q104)) else f_L_isSo_J485 r219 vg vu vh vc ve vt vx og y9_418)
noncomputable def f_L_isSo_J385 (r219 : Int32 → Int32 → Option (Int32)) (vg : Nat → Int32) (vu : Nat → Int32) (vh : Nat → Int32) (vc : Nat → Int32) (ve : Nat → Int32) (vt : Nat → Int32) (vx : Nat → Int32) (og : Sp) (y9_385 : Int32) (y10_385 : Int32) (z0_385 : Int32) (z1_385 : Int32) : Option (Int32) := (if z1_385 = z0_385 then (Q_shotOf y9_385 (5 : Int32) og).bind fun q99 => (if y10_385 = 0 then f_L_isSo_J418 r219 vg vu vh vc ve vt vx og y9_385 y10_385 (-1000004 : Int32) q99 else gd (¬ ((((3 : Int32) * y9_385) + (1 : Int32)) < 0 ∨ 36 ≤ (((3 : Int32) * y9_385) + (1 : Int32)).toNatClampNeg)) ((f_L_away (vt (((3 : Int32) * y9_385) + (1 : Int32)).toNatClampNeg) vg).bind fun q102 => f_L_isSo_J418 r219 vg vu vh vc ve vt vx og y9_385 y10_385 q102 q99)) else f_L_isSo_J485 r219 vg vu vh vc ve vt vx og y9_385)
noncomputable def f_L_isSo_J356 (r219 : Int32 → Int32 → Option (Int32)) (vg : Nat → Int32) (vu : Nat → Int32) (vh : Nat → Int32) (vc : Nat → Int32) (ve : Nat → Int32) (vt : Nat → Int32) (vx : Nat → Int32) (og : Sp) (y9_356 : Int32) (y10_356 : Int32) (z0_356 : Int32) (z1_356 : Int32) : Option (Int32) := (if z1_356 = z0_356 then (Q_shotOf y9_356 (4 : Int32) og).bind fun q95 => (if y10_356 = 0 then f_L_isSo_J385 r219 vg vu vh vc ve vt vx og y9_356 y10_356 (-1000004 : Int32) q95 else gd (¬ ((((4 : Int32) * y9_356) + (1 : Int32)) < 0 ∨ 48 ≤ (((4 : Int32) * y9_356) + (1 : Int32)).toNatClampNeg)) (f_L_isSo_J385 r219 vg vu vh vc ve vt vx og y9_356 y10_356 (vx (((4 : Int32) * y9_356) + (1 : Int32)).toNatClampNeg) q95)) else f_L_isSo_J485 r219 vg vu vh vc ve vt vx og y9_356)
noncomputable def f_L_isSo_J329 (r219 : Int32 → Int32 → Option (Int32)) (vg : Nat → Int32) (vu : Nat → Int32) (vh : Nat → Int32) (vc : Nat → Int32) (ve : Nat → Int32) (vt : Nat → Int32) (vx : Nat → Int32) (og : Sp) (y9_329 : Int32) (y10_329 : Int32) (z0_329 : Int32) (z1_329 : Int32) : Option (Int32) := (if z1_329 = z0_329 then (Q_shotOf y9_329 (3 : Int32) og).bind fun q91 => (if y10_329 = 0 then f_L_isSo_J356 r219 vg vu vh vc ve vt vx og y9_329 y10_329 (-1000004 : Int32) q91 else gd (¬ (((4 : Int32) * y9_329) < 0 ∨ 48 ≤ ((4 : Int32) * y9_329).toNatClampNeg)) (f_L_isSo_J356 r219 vg vu vh vc ve vt vx og y9_329 y10_329 (vx ((4 : Int32) * y9_329).toNatClampNeg) q91)) else f_L_isSo_J485 r219 vg vu vh vc ve vt vx og y9_329)
noncomputable def f_L_isSo_J300 (r219 : Int32 → Int32 → Option (Int32)) (vg : Nat → Int32) (vu : Nat → Int32) (vh : Nat → Int32) (vc : Nat → Int32) (ve : Nat → Int32) (vt : Nat → Int32) (vx : Nat → Int32) (og : Sp) (y9_300 : Int32) (y10_300 : Int32) (z0_300 : Int32) (z1_300 : Int32) : Option (Int32) := (if z1_300 = z0_300 then (Q_shotOf y9_300 (2 : Int32) og).bind fun q64 => (if y10_300 = 0 then f_L_isSo_J329 r219 vg vu vh vc ve vt vx og y9_300 y10_300 (-1000004 : Int32) q64 else gd (¬ ((((3 : Int32) * y9_300) + (2 : Int32)) < 0 ∨ 36 ≤ (((3 : Int32) * y9_300) + (2 : Int32)).toNatClampNeg)) (f_L_isSo_J329 r219 vg vu vh vc ve vt vx og y9_300 y10_300 (vt (((3 : Int32) * y9_300) + (2 : Int32)).toNatClampNeg) q64)) else f_L_isSo_J485 r219 vg vu vh vc ve vt vx og y9_300)
noncomputable def f_L_isSo_J271 (r219 : Int32 → Int32 → Option (Int32)) (vg : Nat → Int32) (vu : Nat → Int32) (vh : Nat → Int32) (vc : Nat → Int32) (ve : Nat → Int32) (vt : Nat → Int32) (vx : Nat → Int32) (og : Sp) (y9_271 : Int32) (y10_271 : Int32) (z0_271 : Int32) (z1_271 : Int32) : Option (Int32) := (if z1_271 = z0_271 then (Q_shotOf y9_271 (1 : Int32) og).bind fun q44 => (if y10_271 = 0 then f_L_isSo_J300 r219 vg vu vh vc ve vt vx og y9_271 y10_271 (-1000004 : Int32) q44 else gd (¬ ((((3 : Int32) * y9_271) + (1 : Int32)) < 0 ∨ 36 ≤ (((3 : Int32) * y9_271) + (1 : Int32)).toNatClampNeg)) (f_L_isSo_J300 r219 vg vu vh vc ve vt vx og y9_271 y10_271 (vt (((3 : Int32) * y9_271) + (1 : Int32)).toNatClampNeg) q44)) else f_L_isSo_J485 r219 vg vu vh vc ve vt vx og y9_271)
noncomputable def f_L_isSo_J245 (r219 : Int32 → Int32 → Option (Int32)) (vg : Nat → Int32) (vu : Nat → Int32) (vh : Nat → Int32) (vc : Nat → Int32) (ve : Nat → Int32) (vt : Nat → Int32) (vx : Nat → Int32) (og : Sp) (y9_245 : Int32) (z0_245 : Int32) : Option (Int32) := (Q_shotOf y9_245 (0 : Int32) og).bind fun q35 => (if z0_245 = 0 then f_L_isSo_J271 r219 vg vu vh vc ve vt vx og y9_245 z0_245 (-1000004 : Int32) q35 else gd (¬ (((3 : Int32) * y9_245) < 0 ∨ 36 ≤ ((3 : Int32) * y9_245).toNatClampNeg)) (f_L_isSo_J271 r219 vg vu vh vc ve vt vx og y9_245 z0_245 (vt ((3 : Int32) * y9_245).toNatClampNeg) q35))
noncomputable def f_L_isSo_L219 (vg : Nat → Int32) (vu : Nat → Int32) (vh : Nat → Int32) (vc : Nat → Int32) (ve : Nat → Int32) (vt : Nat → Int32) (vx : Nat → Int32) (og : Sp) : Nat → Int32 → Int32 → Option (Int32)
  | 0, _, _ => none
  | fu + 1, y8_219, y9_219 => (if (12 : Int32) ≤ y9_219 then f_L_isSo_J494 vg vu vh vc ve vt vx og y8_219 else (if y8_219 = 0 then f_L_isSo_J494 vg vu vh vc ve vt vx og y8_219 else (if (vg (14 : Int32).toNatClampNeg) ≤ y9_219 then f_L_isSo_J245 (f_L_isSo_L219 vg vu vh vc ve vt vx og fu) vg vu vh vc ve vt vx og y9_219 (0 : Int32) else f_L_isSo_J245 (f_L_isSo_L219 vg vu vh vc ve vt vx og fu) vg vu vh vc ve vt vx og y9_219 (1 : Int32))))
noncomputable def f_L_isSo_J216 (vg : Nat → Int32) (vu : Nat → Int32) (vh : Nat → Int32) (vc : Nat → Int32) (ve : Nat → Int32) (vt : Nat → Int32) (vx : Nat → Int32) (og : Sp) (y8_216 : Int32) : Option (Int32) := f_L_isSo_L219 vg vu vh vc ve vt vx og FU y8_216 (0 : Int32)
noncomputable def f_L_isSo_J208 (r156 : Int32 → Int32 → Option (Int32)) (vg : Nat → Int32) (vu : Nat → Int32) (vh : Nat → Int32) (vc : Nat → Int32) (ve : Nat → Int32) (vt : Nat → Int32) (vx : Nat → Int32) (og : Sp) (y9_208 : Int32) (z0_208 : Int32) : Option (Int32) := lt (y9_208 + (1 : Int32)) fun v34 => r156 z0_208 v34
noncomputable def f_L_isSo_J200 (r156 : Int32 → Int32 → Option (Int32)) (vg : Nat → Int32) (vu : Nat → Int32) (vh : Nat → Int32) (vc : Nat → Int32) (ve : Nat → Int32) (vt : Nat → Int32) (vx : Nat → Int32) (og : Sp) (y9_200 : Int32) (z0_200 : Int32) (z1_200 : Int32) : Option (Int32) := (if z1_200 = z0_200 then f_L_isSo_J208 r156 vg vu vh vc ve vt vx og y9_200 (1 : Int32) else f_L_isSo_J208 r156 vg vu vh vc ve vt vx og y9_200 (0 : Int32))
noncomputable def f_L_isSo_L156 (vg : Nat → Int32) (vu : Nat → Int32) (vh : Nat → Int32) (vc : Nat → Int32) (ve : Nat → Int32) (vt : Nat → Int32) (vx : Nat → Int32) (og : Sp) : Nat → Int32 → Int32 → Option (Int32)
  | 0, _, _ => none
  | fu + 1, y8_156, y9_156 => (if (12 : Int32) ≤ y9_156 then f_L_isSo_J216 vg vu vh vc ve vt vx og y8_156 else (if y8_156 = 0 then f_L_isSo_J216 vg vu vh vc ve vt vx og y8_156 else (Q_lotOf (y9_156 / (2 : Int32)) (y9_156 - y9_156 / (2 : Int32) * (2 : Int32)) og).bind fun q27 => (if (vg (13 : Int32).toNatClampNeg) ≤ (y9_156 / (2 : Int32)) then f_L_isSo_J200 (f_L_isSo_L156 vg vu vh vc ve vt vx og fu) vg vu vh vc ve vt vx og y9_156 (-1000004 : Int32) q27 else gd (¬ (y9_156 < 0 ∨ 12 ≤ y9_156.toNatClampNeg)) (f_L_isSo_J200 (f_L_isSo_L156 vg vu vh vc ve vt vx og fu) vg vu vh vc ve vt vx og y9_156 (vh y9_156.toNatClampNeg) q27))))
noncomputable def f_L_isSo_J153 (vg : Nat → Int32) (vu : Nat → Int32) (vh : Nat → Int32) (vc : Nat → Int32) (ve : Nat → Int32) (vt : Nat → Int32) (vx : Nat → Int32) (og : Sp) (y8_153 : Int32) : Option (Int32) := f_L_isSo_L156 vg vu vh vc ve vt vx og FU y8_153 (0 : Int32)
noncomputable def f_L_isSo_J145 (r32 : Int32 → Int32 → Option (Int32)) (vg : Nat → Int32) (vu : Nat → Int32) (vh : Nat → Int32) (vc : Nat → Int32) (ve : Nat → Int32) (vt : Nat → Int32) (vx : Nat → Int32) (og : Sp) (y9_145 : Int32) (z0_145 : Int32) : Option (Int32) := lt (y9_145 + (1 : Int32)) fun v24 => r32 z0_145 v24
noncomputable def f_L_isSo_J144 (r32 : Int32 → Int32 → Option (Int32)) (vg : Nat → Int32) (vu : Nat → Int32) (vh : Nat → Int32) (vc : Nat → Int32) (ve : Nat → Int32) (vt : Nat → Int32) (vx : Nat → Int32) (og : Sp) (y9_144 : Int32) : Option (Int32) := f_L_isSo_J145 r32 vg vu vh vc ve vt vx og y9_144 (0 : Int32)
noncomputable def f_L_isSo_L32 (vg : Nat → Int32) (vu : Nat → Int32) (vh : Nat → Int32) (vc : Nat → Int32) (ve : Nat → Int32) (vt : Nat → Int32) (vx : Nat → Int32) (og : Sp) : Nat → Int32 → Int32 → Option (Int32)
  | 0, _, _ => none
  | fu + 1, y8_32, y9_32 => (if (2 : Int32) ≤ y9_32 then f_L_isSo_J153 vg vu vh vc ve vt vx og y8_32 else (if y8_32 = 0 then f_L_isSo_J153 vg vu vh vc ve vt vx og y8_32 else (Q_burrOf y9_32 (0 : Int32) og).bind fun q7 => gd (¬ (((4 : Int32) * y9_32) < 0 ∨ 8 ≤ ((4 : Int32) * y9_32).toNatClampNeg)) ((if q7 = (vu ((4 : Int32) * y9_32).toNatClampNeg) then (Q_burrOf y9_32 (1 : Int32) og).bind fun q10 => gd (¬ ((((4 : Int32) * y9_32) + (1 : Int32)) < 0 ∨ 8 ≤ (((4 : Int32) * y9_32) + (1 : Int32)).toNatClampNeg)) ((if q10 = (vu (((4 : Int32) * y9_32) + (1 : Int32)).toNatClampNeg) then (Q_burrOf y9_32 (2 : Int32) og).bind fun q13 => gd (¬ (((4 : Int32) * y9_32) < 0 ∨ 8 ≤ ((4 : Int32) * y9_32).toNatClampNeg)) (gd (¬ ((((4 : Int32) * y9_32) + (1 : Int32)) < 0 ∨ 8 ≤ (((4 : Int32) * y9_32) + (1 : Int32)).toNatClampNeg)) ((f_L_gap (vu ((4 : Int32) * y9_32).toNatClampNeg) (vu (((4 : Int32) * y9_32) + (1 : Int32)).toNatClampNeg)).bind fun q16 => (if q13 = q16 then (Q_burrOf y9_32 (3 : Int32) og).bind fun q18 => gd (¬ ((((4 : Int32) * y9_32) + (2 : Int32)) < 0 ∨ 8 ≤ (((4 : Int32) * y9_32) + (2 : Int32)).toNatClampNeg)) ((if q18 = (vu (((4 : Int32) * y9_32) + (2 : Int32)).toNatClampNeg) then (Q_burrOf y9_32 (4 : Int32) og).bind fun q21 => gd (¬ ((((4 : Int32) * y9_32) + (3 : Int32)) < 0 ∨ 8 ≤ (((4 : Int32) * y9_32) + (3 : Int32)).toNatClampNeg)) ((if q21 = (vu (((4 : Int32) * y9_32) + (3 : Int32)).toNatClampNeg) then f_L_isSo_J145 (f_L_isSo_L32 vg vu vh vc ve vt vx og fu) vg vu vh vc ve vt vx og y9_32 (1 : Int32) else f_L_isSo_J144 (f_L_isSo_L32 vg vu vh vc ve vt vx og fu) vg vu vh vc ve vt vx og y9_32)) else f_L_isSo_J144 (f_L_isSo_L32 vg vu vh vc ve vt vx og fu) vg vu vh vc ve vt vx og y9_32)) else f_L_isSo_J144 (f_L_isSo_L32 vg vu vh vc ve vt vx og fu) vg vu vh vc ve vt vx og y9_32))) else f_L_isSo_J144 (f_L_isSo_L32 vg vu vh vc ve vt vx og fu) vg vu vh vc ve vt vx og y9_32)) else f_L_isSo_J144 (f_L_isSo_L32 vg vu vh vc ve vt vx og fu) vg vu vh vc ve vt vx og y9_32))))
noncomputable def f_L_isSo_J27 (vg : Nat → Int32) (vu : Nat → Int32) (vh : Nat → Int32) (vc : Nat → Int32) (ve : Nat → Int32) (vt : Nat → Int32) (vx : Nat → Int32) (og : Sp) (z0_27 : Int32) : Option (Int32) := f_L_isSo_L32 vg vu vh vc ve vt vx og FU z0_27 (0 : Int32)
noncomputable def f_L_isSo_J26 (vg : Nat → Int32) (vu : Nat → Int32) (vh : Nat → Int32) (vc : Nat → Int32) (ve : Nat → Int32) (vt : Nat → Int32) (vx : Nat → Int32) (og : Sp) : Option (Int32) := f_L_isSo_J27 vg vu vh vc ve vt vx og (0 : Int32)
noncomputable def f_L_isSo (vg : Nat → Int32) (vu : Nat → Int32) (vh : Nat → Int32) (vc : Nat → Int32) (ve : Nat → Int32) (vt : Nat → Int32) (vx : Nat → Int32) (og : Sp) : Option (Int32) := (f_L_arePortions (0 : Int32) vg vc og).bind fun q1 => (if q1 = 0 then f_L_isSo_J26 vg vu vh vc ve vt vx og else (f_L_arePortions (1 : Int32) vg ve og).bind fun q3 => (if q3 = 0 then f_L_isSo_J26 vg vu vh vc ve vt vx og else f_L_isSo_J27 vg vu vh vc ve vt vx og (1 : Int32)))
end
section
/-! the law's own arrays, its small methods -/
theorem cN {n : Nat} (h : n < 2 ^ 31) : (OfNat.ofNat n : Int32).toNatClampNeg = n := nI_clamp h
def en (p : Nat × Nat) : Nat := p.1 + 1000 * p.2
def rwE (L : List (Nat × Nat)) (A : Nat → Int32) : Prop := A 0 = nI L.length ∧ ∀ k : Nat, k < L.length → A (k + 1) = nI (en (lk L k))
def okE (L : List (Nat × Nat)) : Prop := ∀ p ∈ L, 1 ≤ p.1 ∧ p.1 < 1000 ∧ 40 ≤ p.2 ∧ p.2 < 2404
def loE (L : List (Nat × Nat)) (G A : Nat → Int32) : Prop := G 13 = nI L.length ∧ ∀ k : Nat, k < L.length → A (2 * k) = nI (lk L k).2 ∧ A (2 * k + 1) = nI (lk L k).1
def buE (b : Nat) (x : Bu) (A : Nat → Int32) : Prop := A (4 * b) = nI x.1 ∧ A (4 * b + 1) = nI x.2.1 ∧ A (4 * b + 2) = x.2.2.1 ∧ A (4 * b + 3) = x.2.2.2
def stE (v : Nat → Nat) (G : Nat → Int32) : Prop := ∀ k : Nat, k < 6 → G (7 + k) = nI (v k)
def shE (K : List Sh) (T X : Nat → Int32) : Prop := ∀ k : Nat, k < K.length → T (3 * k) = (sk0 K k).1 ∧ T (3 * k + 1) = nI (sk0 K k).2.1 ∧ T (3 * k + 2) = (sk0 K k).2.2.1 ∧ X (4 * k) = (sk0 K k).2.2.2.1 ∧ X (4 * k + 1) = (sk0 K k).2.2.2.2.1 ∧ X (4 * k + 2) = (sk0 K k).2.2.2.2.2.1 ∧ X (4 * k + 3) = (sk0 K k).2.2.2.2.2.2
/-- the law's arrays hold the state -/
def LR (σ : Sp) (G U H C E T X : Nat → Int32) : Prop := loE (v_lo σ) G H ∧ buE 0 (v_b0 σ) U ∧ buE 1 (v_b1 σ) U ∧ rwE (v_ch σ) C ∧ rwE (v_ba σ) E ∧ shE (v_K σ) T X ∧ G 14 = nI (v_K σ).length ∧ G 5 = v_mk σ ∧ stE (v_st σ) G ∧ G 0 = nI (v_se σ) ∧ G 1 = v_fi σ ∧ G 2 = v_gr σ ∧ G 3 = v_br σ ∧ G 4 = v_pu σ ∧ G 6 = v_nr σ
theorem okE_of {L : List (Nat × Nat)} (h : okR L) (h2 : mkK L) (ht : tot L < 1000) : okE L := by
  induction L with
  | nil => exact fun p hp => by cases hp
  | cons q L ih =>
    obtain ⟨h1, h3⟩ := okR_c h
    simp only [tot] at ht
    intro p hp
    rcases List.mem_cons.mp hp with rfl | hp
    · have := h2 p List.mem_cons_self
      exact ⟨h1.1, by omega, this.1, this.2⟩
    · exact ih h3 (fun q hq => h2 q (List.mem_cons_of_mem _ hq)) (by omega) p hp
theorem en_lt {p : Nat × Nat} (h : p.1 < 1000) (h2 : p.2 < 2404) : en p < 2 ^ 22 := by unfold en; omega
theorem L_low (x : Int32) {n : Nat} (h0 : 0 < n) (hn : n < 2 ^ 31) : ∃ j : Nat, j < n ∧ f_L_low x (nI n) = some (nI j) := by
  refine ⟨x.toBitVec.toNat % 2 ^ 31 % n, Nat.mod_lt _ h0, ?_⟩
  have e := pk_and x (m := (2147483647 : Int32)) 31 (by decide)
  have hl : x.toBitVec.toNat % 2 ^ 31 < 2 ^ 31 := Nat.mod_lt _ (by decide)
  rw [f_L_low, gd_t (nI_ne0 h0 hn), e, pk_rem hl h0 hn]
theorem L_gap {d w : Nat} (hd : d < 2 ^ 20) (hw : w < 2 ^ 20) : f_L_gap (nI d) (nI w) = some (nI (gp d w)) := by
  rw [f_L_gap]
  unfold gp
  rw [fa_lit 10, fa_lit 5, pk_mul, pk_div (by omega) (by decide) (by decide)]
  by_cases h : w / 5 ≤ 10 * d
  · rw [pk_sub h]
    by_cases h2 : 10 * d - w / 5 ≤ 10
    · rw [if_pos (nI_le h2 (by omega))]
      exact so_inj (nI_inj (by omega))
    · rw [if_neg (nI_ge (by omega) (by omega))]
      exact so_inj (nI_inj (by omega))
  · have hn : nI (10 * d) - nI (w / 5) < 0 := pk_sneg (by omega) (by omega)
    rw [if_pos (Int32.le_of_lt (show nI (10 * d) - nI (w / 5) < nI 10 from ?_))]
    · exact so_inj (nI_inj (by omega))
    · rw [Int32.lt_iff_toInt_lt, Int32.toInt_zero] at hn
      rw [Int32.lt_iff_toInt_lt, nI_toInt (by decide)]
      omega
theorem L_flow {v : Nat → Nat} {G : Nat → Int32} {p : Nat × Nat} (hs : stE v G) (hv : stK v) (h1 : p.1 < 1000) (h2 : 40 ≤ p.2) (h3 : p.2 < 2404) : f_L_flow (nI (en p)) G = some (nI (flm v p.2)) := by
  have hl := en_lt h1 h3
  have e1 : en p / 1000 = p.2 := by unfold en; omega
  have e4 : en p / 4000 = p.2 / 4 := by unfold en; omega
  have hh := hdn_le hv (p.2 % 2)
  have eg : G (10 + p.2 % 2) = nI (hdn v (p.2 % 2)) := by
    unfold hdn
    rcases (show p.2 % 2 = 0 ∨ p.2 % 2 = 1 by omega) with e | e
    · rw [e, if_pos rfl]; exact hs 3 (by decide)
    · rw [e, if_neg (by decide)]; exact hs 4 (by decide)
  rw [f_L_flow, fa_lit 1000, fa_lit 2, fa_lit 10, fa_lit 4000, pk_div (a := en p) (d := 1000) (by omega) (by decide) (by decide), pk_rem (by omega) (by decide) (by decide), nI_add, gd_t (nI_in (by omega) (by decide)), pk_div (a := en p) (d := 4000) (by omega) (by decide) (by decide), v_cl (by omega), e1, e4, gd_t (nI_ne0 (by omega) (by omega)), eg, pk_mul, pk_div (by omega) (by omega) (by omega)]
  unfold flm fw
  rw [if_neg (by omega), Nat.mul_comm]
theorem L_away {t g : Nat} {G : Nat → Int32} (h : G 7 = nI g) (ht : t < 2 ^ 30) (hg : g < 2 ^ 30) : f_L_away (nI t) G = some (nI (aw t g)) := by
  rw [f_L_away, cN (n := 7) (by decide), h]
  unfold aw
  by_cases c : t ≤ g
  · rw [if_pos (nI_le c (by omega)), pk_sub c]
    by_cases c2 : g ≤ t
    · rw [if_pos c2]; exact so_inj (nI_inj (by omega))
    · rw [if_neg c2]
  · rw [if_neg (nI_ge (by omega) (by omega)), pk_sub (by omega), if_pos (by omega)]
theorem L_amounts_L {L : List (Nat × Nat)} {A : Nat → Int32} (h : rwE L A) (hok : okE L) (hb : L.length ≤ 63) : ∀ (m i s fuel : Nat) (Lr : List (Nat × Nat)), Lr.length = m → i + m = L.length → (∀ k : Nat, k < m → lk Lr k = lk L (i + k)) → m < fuel → f_L_amounts_L4 A fuel (nI s) (nI (i + 1)) = some (nI (s + tot Lr)) := by
  intro m
  induction m with
  | zero =>
    intro i s fuel Lr hL hi hk hf
    obtain ⟨fu, rfl⟩ : ∃ fu, fuel = fu + 1 := ⟨fuel - 1, by omega⟩
    have hL0 : Lr = [] := List.length_eq_zero_iff.mp hL
    subst hL0
    rw [f_L_amounts_L4, cN (n := 0) (by decide), h.1, if_pos (nI_lt (by omega) (by omega))]
    rfl
  | succ m ih =>
    intro i s fuel Lr hL hi hk hf
    obtain ⟨fu, rfl⟩ : ∃ fu, fuel = fu + 1 := ⟨fuel - 1, by omega⟩
    match Lr, hL with
    | p :: Lr, hL =>
      simp only [List.length_cons] at hL
      have h1 := hk 0 (by omega)
      rw [lk_0, Nat.add_zero] at h1
      have hp := hok (lk L i) (lk_m (by omega))
      have hl := en_lt hp.2.1 hp.2.2.2
      have e1 : en (lk L i) % 1000 = (lk L i).1 := by unfold en; omega
      have ih' := ih (i + 1) (s + p.1) fu Lr (by omega) (by omega) (fun k q => by
        have := hk (k + 1) (by omega)
        rw [lk_s] at this
        rw [this, show i + (k + 1) = i + 1 + k by omega]) (by omega)
      rw [f_L_amounts_L4, cN (n := 0) (by decide), h.1, if_neg (nI_nlt (by omega) (by omega)), gd_t (nI_in (by omega) (by decide)), v_cl (by omega), h.2 i (by omega)]
      simp only [lt_v]
      rw [fa_lit 1000, pk_rem (by omega) (by decide) (by decide), e1, nI_add, nI_1, ← h1, ih']
      simp only [tot, Nat.add_assoc]
theorem L_amounts {L : List (Nat × Nat)} {A : Nat → Int32} (h : rwE L A) (hok : okE L) (hb : L.length ≤ 63) : f_L_amounts A = some (nI (tot L)) := by
  have := L_amounts_L h hok hb L.length 0 0 FU L rfl (by omega) (fun k _ => by rw [Nat.zero_add]) (by show _ < 20000; omega)
  rw [nI_0, Nat.zero_add, Nat.zero_add] at this
  exact this
theorem L_hopper_L {L : List (Nat × Nat)} {G A : Nat → Int32} (h : loE L G A) (hb : L.length ≤ 6) : ∀ (m i s fuel : Nat) (Lr : List (Nat × Nat)), Lr.length = m → i + m = L.length → (∀ k : Nat, k < m → lk Lr k = lk L (i + k)) → m < fuel → f_L_hopper_L4 G A fuel (nI s) (nI i) = some (nI (s + tot Lr)) := by
  intro m
  induction m with
  | zero =>
    intro i s fuel Lr hL hi hk hf
    obtain ⟨fu, rfl⟩ : ∃ fu, fuel = fu + 1 := ⟨fuel - 1, by omega⟩
    have hL0 : Lr = [] := List.length_eq_zero_iff.mp hL
    subst hL0
    rw [f_L_hopper_L4, cN (n := 13) (by decide), h.1, if_pos (nI_le (by omega) (by omega))]
    rfl
  | succ m ih =>
    intro i s fuel Lr hL hi hk hf
    obtain ⟨fu, rfl⟩ : ∃ fu, fuel = fu + 1 := ⟨fuel - 1, by omega⟩
    match Lr, hL with
    | p :: Lr, hL =>
      simp only [List.length_cons] at hL
      have h1 := hk 0 (by omega)
      rw [lk_0, Nat.add_zero] at h1
      have ih' := ih (i + 1) (s + p.1) fu Lr (by omega) (by omega) (fun k q => by
        have := hk (k + 1) (by omega)
        rw [lk_s] at this
        rw [this, show i + (k + 1) = i + 1 + k by omega]) (by omega)
      rw [f_L_hopper_L4, cN (n := 13) (by decide), h.1, if_neg (nI_ge (by omega) (by omega)), fa_lit 2, pk_mul, nI_1, gd_t (nI_in (by omega) (by decide)), v_cl (by omega), (h.2 i (by omega)).2]
      simp only [lt_v]
      rw [nI_add, nI_1, ← h1, ih']
      simp only [tot, Nat.add_assoc]
theorem L_hopper {L : List (Nat × Nat)} {G A : Nat → Int32} (h : loE L G A) (hb : L.length ≤ 6) : f_L_hopper G A = some (nI (tot L)) := by
  have := L_hopper_L h hb L.length 0 0 FU L rfl (by omega) (fun k _ => by rw [Nat.zero_add]) (by show _ < 20000; omega)
  rw [nI_0, Nat.zero_add] at this
  exact this
/-! seconds pass in the law -/
theorem tmz_s (t m : Nat) : tmz t (m + 1) = (if (t + 1) % 10 = 0 then 1 else 0) + tmz (t + 1) m := by
  unfold tmz
  split <;> omega
theorem tmz_0 (t : Nat) : tmz t 0 = 0 := by unfold tmz; omega
theorem L_pin {r5 : Int32 → Int32 → (Nat → Int32) → (Nat → Int32) → Option (Int32 × (Nat → Int32) × (Nat → Int32))} {y2 y4 : Int32} {fu s b t w : Nat} {G U : Nat → Int32} (hb : b < 2) (h0 : G 0 = nI t) (ht : t < 2 ^ 30) (c : t % 10 = 0) (hw : U (4 * b + 1) = nI w) (hw2 : w ≤ 300) : f_L_pass_L21 r5 y2 y4 (fu + 1) (nI s) (nI (4 * b + 1)) G U = f_L_pass_L21 r5 y2 y4 fu (nI (s + fl w)) (nI (4 * b + 5)) G (upd U (4 * b + 1) (nI (w - fl w))) := by
  have eg : ¬ (nI (4 * b + 1) < 0 ∨ 8 ≤ (nI (4 * b + 1)).toNatClampNeg) := nI_in (by omega) (by decide)
  have ec : (nI (4 * b + 1)).toNatClampNeg = 4 * b + 1 := v_cl (by omega)
  have hJ : ∀ z : Nat, z ≤ w → f_L_pass_J70 r5 (f_L_pass_L21 r5 y2 y4 fu) y2 (nI s) y4 (nI (4 * b + 1)) (nI z) G U = f_L_pass_L21 r5 y2 y4 fu (nI (s + z)) (nI (4 * b + 5)) G (upd U (4 * b + 1) (nI (w - z))) := fun z hz => by
    rw [f_L_pass_J70, gd_t eg]
    simp only [lt_v]
    rw [gd_t eg, ec, hw, pk_sub hz, nI_add, fa_lit 4, nI_add]
  have l := fl_le w
  rw [f_L_pass_L21, fa_lit 8, if_neg (nI_ge (by omega) (by omega)), cN (n := 0) (by decide), h0, fa_lit 10, pk_rem (by omega) (by decide) (by decide), c, if_pos nI_0, gd_t eg, gd_t eg, gd_t eg, ec, hw, fa_lit 16, pk_div (by omega) (by decide) (by decide)]
  by_cases c1 : w / 16 ≤ 1
  · rw [if_pos (show nI (w / 16) ≤ (1 : Int32) from nI_le (b := 1) c1 (by decide))]
    by_cases c2 : w = 0
    · subst c2
      rw [if_pos (by rw [nI_0]; exact Int32.le_refl 0), ← nI_0]
      exact hJ 0 (Nat.le_refl 0)
    · have e : fl w = 1 := by unfold fl; rw [if_neg c2]; split <;> omega
      rw [if_neg (nI_nle (by omega) (by omega)), e]
      exact hJ 1 (by omega)
  · have e : fl w = w / 16 := by unfold fl; rw [if_neg (by omega), if_neg (by omega)]
    rw [if_neg (show ¬ nI (w / 16) ≤ (1 : Int32) from nI_ge (a := 1) (by omega) (by omega)), e]
    exact hJ (w / 16) (by omega)
theorem L_pass_L {n : Nat} (hn : n < 2 ^ 20) : ∀ (m k s t w0 w1 fuel : Nat) (G U : Nat → Int32), k + m = n → m < fuel → G 0 = nI t → U 1 = nI w0 → U 5 = nI w1 → t + m < 2 ^ 30 → w0 ≤ 300 → w1 ≤ 300 →
    ∃ G' U', f_L_pass_L5 (nI n) fuel (nI s) (nI k) G U = some (nI (s + (w0 - cl (tmz t m) w0) + (w1 - cl (tmz t m) w1)), G', U') ∧ G' 0 = nI (t + m) ∧ U' 1 = nI (cl (tmz t m) w0) ∧ U' 5 = nI (cl (tmz t m) w1) ∧ (∀ i, i ≠ 0 → G' i = G i) ∧ ∀ i, i ≠ 1 → i ≠ 5 → U' i = U i := by
  intro m
  induction m with
  | zero =>
    intro k s t w0 w1 fuel G U hk hf h0 h14 h18 ht hw0 hw1
    obtain ⟨fu, rfl⟩ : ∃ fu, fuel = fu + 1 := ⟨fuel - 1, by omega⟩
    rw [f_L_pass_L5, if_pos (nI_le (by omega) (by omega)), tmz_0]
    refine ⟨G, U, ?_, h0, h14, h18, fun i _ => rfl, fun i _ _ => rfl⟩
    show some (nI s, G, U) = some (nI (s + (w0 - w0) + (w1 - w1)), G, U)
    rw [Nat.sub_self, Nat.sub_self]
    rfl
  | succ m ih =>
    intro k s t w0 w1 fuel G U hk hf h0 h14 h18 ht hw0 hw1
    obtain ⟨fu, rfl⟩ : ∃ fu, fuel = fu + 1 := ⟨fuel - 1, by omega⟩
    rw [f_L_pass_L5, if_neg (nI_ge (by omega) (by omega)), cN (n := 0) (by decide), h0]
    simp only [lt_v]
    rw [nI_1]
    have l0 := fl_le w0
    have l1 := fl_le w1
    have hFU : FU = 19997 + 1 + 1 + 1 := rfl
    by_cases c : (t + 1) % 10 = 0
    · have e18 : upd U (4 * 0 + 1) (nI (w0 - fl w0)) (4 * 1 + 1) = nI w1 := (pk_un (by decide)).trans h18
      obtain ⟨G', U', a1, a2, a3, a4, a5, a6⟩ := ih (k + 1) (s + fl w0 + fl w1) (t + 1) (w0 - fl w0) (w1 - fl w1) fu (upd G 0 (nI (t + 1))) (upd (upd U (4 * 0 + 1) (nI (w0 - fl w0))) (4 * 1 + 1) (nI (w1 - fl w1))) (by omega) (by omega) pk_us ((pk_un (by decide)).trans pk_us) pk_us (by omega) (by omega) (by omega)
      have hz : tmz t (m + 1) = tmz (t + 1) m + 1 := by rw [tmz_s, if_pos c]; omega
      have c0 := cl_le (tmz (t + 1) m) (w0 - fl w0)
      have c1 := cl_le (tmz (t + 1) m) (w1 - fl w1)
      refine ⟨G', U', ?_, ?_, ?_, ?_, ?_, ?_⟩
      · rw [hFU]
        have p1 := L_pin (r5 := f_L_pass_L5 (nI n) fu) (y2 := nI n) (y4 := nI k) (fu := 19997 + 1 + 1) (s := s) (b := 0) (G := upd G 0 (nI (t + 1))) (U := U) (by decide) pk_us (by omega) c h14 hw0
        have p2 := L_pin (r5 := f_L_pass_L5 (nI n) fu) (y2 := nI n) (y4 := nI k) (fu := 19997 + 1) (s := s + fl w0) (b := 1) (G := upd G 0 (nI (t + 1))) (by decide) pk_us (by omega) c e18 hw1
        refine p1.trans (p2.trans ?_)
        rw [f_L_pass_L21, if_pos (show (8 : Int32) ≤ nI (4 * 1 + 5) from nI_le (a := 8) (by omega) (by omega)), f_L_pass_J92, lt_v, nI_1, a1, hz]
        refine so_inj (Prod.ext (nI_inj ?_) rfl)
        show _ = s + (w0 - cl (tmz (t + 1) m) (w0 - fl w0)) + (w1 - cl (tmz (t + 1) m) (w1 - fl w1))
        omega
      · rw [a2]; exact nI_inj (by omega)
      · rw [a3, hz]; rfl
      · rw [a4, hz]; rfl
      · intro i i0
        exact (a5 i i0).trans (pk_un i0)
      · intro i i1 i2
        exact (a6 i i1 i2).trans ((pk_un i2).trans (pk_un i1))
    · obtain ⟨G', U', a1, a2, a3, a4, a5, a6⟩ := ih (k + 1) s (t + 1) w0 w1 fu (upd G 0 (nI (t + 1))) U (by omega) (by omega) pk_us h14 h18 (by omega) hw0 hw1
      have hz : tmz t (m + 1) = tmz (t + 1) m := by rw [tmz_s, if_neg c]; omega
      refine ⟨G', U', ?_, ?_, ?_, ?_, ?_, a6⟩
      · rw [hFU, f_L_pass_L21, if_neg (by decide), cN (n := 0) (by decide), pk_us, fa_lit 10, pk_rem (by omega) (by decide) (by decide), if_neg (nI_ne0 (by omega) (by omega)), f_L_pass_J92, lt_v, nI_1, a1, hz]
      · rw [a2]; exact nI_inj (by omega)
      · rw [a3, hz]
      · rw [a4, hz]
      · intro i i0
        exact (a5 i i0).trans (pk_un i0)
theorem L_pass {n t w0 w1 : Nat} {G U : Nat → Int32} (hn : n < 19999) (h0 : G 0 = nI t) (h14 : U 1 = nI w0) (h18 : U 5 = nI w1) (ht : t < 2 ^ 29) (hw0 : w0 ≤ 300) (hw1 : w1 ≤ 300) :
    ∃ G' U', f_L_pass (nI n) G U = some (nI (w0 + w1 - cl (tmz t n) w0 - cl (tmz t n) w1), G', U') ∧ G' 0 = nI (t + n) ∧ U' 1 = nI (cl (tmz t n) w0) ∧ U' 5 = nI (cl (tmz t n) w1) ∧ (∀ i, i ≠ 0 → G' i = G i) ∧ ∀ i, i ≠ 1 → i ≠ 5 → U' i = U i := by
  obtain ⟨G', U', a1, a2⟩ := L_pass_L (n := n) (by omega) n 0 0 t w0 w1 FU G U (by omega) (by show n < 20000; omega) h0 h14 h18 (by omega) hw0 hw1
  have c0 := cl_le (tmz t n) w0
  have c1 := cl_le (tmz t n) w1
  refine ⟨G', U', ?_, a2⟩
  rw [f_L_pass, ← nI_0, a1]
  exact so_inj (Prod.ext (nI_inj (by show 0 + (w0 - _) + (w1 - _) = _; omega)) rfl)
end
section
/-! the law grinds -/
abbrev LGr : Type := (Nat → Int32) × (Nat → Int32) × (Nat → Int32) × (Nat → Int32) × (Nat → Int32)
abbrev LGf : Type := Int32 → (Nat → Int32) → (Nat → Int32) → (Nat → Int32) → (Nat → Int32) → (Nat → Int32) → Option LGr
theorem L_sh {r : LGf} {y5 y6 y7 y8 : Int32} {G U C E : Nat → Int32} : ∀ (m i fuel : Nat) (H : Nat → Int32), i + m = 10 → m < fuel → ∃ H', f_L_grind_L113 r y5 y6 y7 y8 1 fuel (nI i) G U H C E = f_L_grind_J141 r y5 y6 y7 y8 1 G U H' C E ∧ (∀ k, i ≤ k → k < 10 → H' k = H (k + 2)) ∧ ∀ k, (k < i ∨ 10 ≤ k) → H' k = H k := by
  intro m
  induction m with
  | zero =>
    intro i fuel H hi hf
    obtain ⟨fu, rfl⟩ : ∃ fu, fuel = fu + 1 := ⟨fuel - 1, by omega⟩
    rw [f_L_grind_L113, if_pos (by rw [fa_L]; exact nI_le (by omega) (by omega))]
    exact ⟨H, rfl, fun k h1 h2 => absurd h2 (by omega), fun k _ => rfl⟩
  | succ m ih =>
    intro i fuel H hi hf
    obtain ⟨fu, rfl⟩ : ∃ fu, fuel = fu + 1 := ⟨fuel - 1, by omega⟩
    obtain ⟨H', a1, a2, a3⟩ := ih (i + 1) fu (upd H i (H (i + 2))) (by omega) (by omega)
    refine ⟨H', ?_, ?_, ?_⟩
    · rw [f_L_grind_L113, if_neg (by rw [fa_L]; exact nI_ge (by omega) (by decide)), if_neg (by decide), fa_lit 2, nI_add, gd_t (nI_in (by omega) (by decide)), v_cl (by omega)]
      simp only [lt_v]
      rw [gd_t (nI_in (by omega) (by decide)), v_cl (by omega), nI_1, a1]
    · intro k h1 h2
      by_cases e : k = i
      · subst e
        rw [a3 _ (Or.inl (by omega)), pk_us]
      · rw [a2 k (by omega) h2, pk_un (by omega)]
    · intro k hk
      rw [a3 k (by omega), pk_un (by omega)]
theorem L_J44 {r : LGf} {y6 : Int32} {b g l z : Nat} {p : Nat × Nat} {L ch : List (Nat × Nat)} {G U H C E : Nat → Int32} (hlo : loE (p :: L) G H) (hch : rwE ch C) (hb : b < 2) (hg : g ≤ 600) (hp : p.1 ≤ 4000) (hp2 : p.2 < 2) (hz0 : 1 ≤ z) (hz : z ≤ p.1) (hl : z ≤ l) (hl2 : l ≤ 400) (hlen : L.length ≤ 5) (hlen2 : ch.length < 62) :
    ∃ G' H' C', f_L_grind_J44 r (nI b) y6 (nI g) (nI l) (nI z) G U H C E = r (nI (l - z)) G' U H' C' E ∧ rwE (ch ++ [(z, 4 * g + 2 * b + p.2)]) C' ∧ (z = p.1 → loE L G' H') ∧ (z < p.1 → loE ((p.1 - z, p.2) :: L) G' H') ∧ ∀ i, i ≠ 13 → G' i = G i := by
  have e13 : G 13 = nI (L.length + 1) := hlo.1
  have e0 : H 0 = nI p.2 := (hlo.2 0 (Nat.succ_pos _)).1
  have e1 : H 1 = nI p.1 := (hlo.2 0 (Nat.succ_pos _)).2
  have ec : C 0 = nI ch.length := hch.1
  have ev : nI z + (1000 : Int32) * nI p.2 + (2000 : Int32) * nI b + (4000 : Int32) * nI g = nI (en (z, 4 * g + 2 * b + p.2)) := by
    rw [fa_lit 1000, fa_lit 2000, fa_lit 4000, pk_mul, pk_mul, pk_mul, nI_add, nI_add, nI_add]
    unfold en
    exact nI_inj (by show _ = z + 1000 * (4 * g + 2 * b + p.2); omega)
  have eg : ¬ (nI (ch.length + 1) < 0 ∨ 64 ≤ (nI (ch.length + 1)).toNatClampNeg) := nI_in (by omega) (by decide)
  generalize hT : upd (upd C 0 (nI (ch.length + 1))) (ch.length + 1) (nI (en (z, 4 * g + 2 * b + p.2))) = T
  have hrw : rwE (ch ++ [(z, 4 * g + 2 * b + p.2)]) T := by
    refine ⟨?_, fun k hk => ?_⟩
    · rw [← hT, pk_un (by omega), pk_us, List.length_append]; rfl
    · rw [List.length_append, List.length_singleton] at hk
      by_cases e : k = ch.length
      · subst e
        have := lk_r (L := ch) (K := [(z, 4 * g + 2 * b + p.2)]) (k := 0)
        rw [Nat.add_zero, lk_0] at this
        rw [this, ← hT, pk_us]
      · rw [lk_l (by omega), ← hT, pk_un (by omega), pk_un (by omega)]
        exact hch.2 k (by omega)
  have st : f_L_grind_J44 r (nI b) y6 (nI g) (nI l) (nI z) G U H C E = (if nI (p.1 - z) = 0 then f_L_grind_J108 r (nI b) y6 (nI g) (nI (l - z)) 1 G U (upd H 1 (nI (p.1 - z))) T E else f_L_grind_J108 r (nI b) y6 (nI g) (nI (l - z)) 0 G U (upd H 1 (nI (p.1 - z))) T E) := by
    rw [f_L_grind_J44]
    simp only [lt_v, cN (n := 0) (by decide), cN (n := 1) (by decide), pk_us]
    rw [ec, nI_1, e0, ev, gd_t eg, v_cl (by omega), hT, e1, pk_sub hz, pk_sub hl]
  have key : ∀ (n1 : Nat) (z0 : Int32) (H' : Nat → Int32), (nI (L.length + 1) - z0 = nI n1) → f_L_grind_J156 r (nI b) y6 (nI g) (nI (l - z)) z0 (G (13 : Int32).toNatClampNeg) (13 : Int32) G U H' T E = r (nI (l - z)) (upd G 13 (nI n1)) U H' T E := fun n1 z0 H' hn => by
    rw [f_L_grind_J156, cN (n := 13) (by decide), e13, hn, lt_v, gd_t (by decide), lt_v]
  rw [st]
  by_cases c : z = p.1
  · obtain ⟨H', a1, a2, a3⟩ := L_sh (r := r) (y5 := nI b) (y6 := y6) (y7 := nI g) (y8 := nI (l - z)) (G := G) (U := U) (C := T) (E := E) 10 0 FU (upd H 1 (nI (p.1 - z))) (by omega) (by show _ < 20000; omega)
    refine ⟨upd G 13 (nI L.length), H', T, ?_, hrw, fun _ => ⟨pk_us, fun k hk => ⟨?_, ?_⟩⟩, fun q => absurd q (by omega), fun i hi => pk_un hi⟩
    · rw [if_pos (by rw [c, Nat.sub_self]; exact nI_0), f_L_grind_J108, ← nI_0, a1, f_L_grind_J141, if_neg (by decide)]
      exact key L.length 1 H' (nI_pred L.length)
    · have h1 := (hlo.2 (k + 1) (by simp only [List.length_cons]; omega)).1
      rw [lk_s] at h1
      rw [a2 (2 * k) (by omega) (by omega), pk_un (by omega), ← h1]
      congr 1
    · have h1 := (hlo.2 (k + 1) (by simp only [List.length_cons]; omega)).2
      rw [lk_s] at h1
      rw [a2 (2 * k + 1) (by omega) (by omega), pk_un (by omega), ← h1]
      congr 1
  · refine ⟨upd G 13 (nI (L.length + 1)), upd H 1 (nI (p.1 - z)), T, ?_, hrw, fun q => absurd q c, fun _ => ⟨pk_us, fun k hk => ?_⟩, fun i hi => pk_un hi⟩
    · have hFU : FU = 19999 + 1 := rfl
      rw [if_neg (nI_ne0 (by omega) (by omega)), f_L_grind_J108, hFU, f_L_grind_L113, if_neg (by decide), if_pos rfl, f_L_grind_J141, if_pos rfl]
      exact key (L.length + 1) 0 _ (by rw [← nI_0, pk_sub (Nat.zero_le _), Nat.sub_zero])
    · cases k with
      | zero =>
        rw [lk_0]
        refine ⟨?_, pk_us⟩
        rw [pk_un (by decide)]
        exact e0
      | succ k =>
        simp only [List.length_cons] at hk
        have h1 := hlo.2 (k + 1) (by simp only [List.length_cons]; omega)
        rw [lk_s] at h1 ⊢
        rw [pk_un (by omega), pk_un (by omega)]
        exact h1
theorem L_in {b g : Nat} {y6 : Int32} {U E : Nat → Int32} (hb : b < 2) (hg : g ≤ 600) : ∀ (L : List (Nat × Nat)) (l fuel : Nat) (ch : List (Nat × Nat)) (G H C : Nat → Int32), okR L → (∀ p ∈ L, p.2 < 2) → loE L G H → rwE ch C → l ≤ tot L → l ≤ 400 → L.length ≤ 6 → ch.length + L.length ≤ 62 → L.length < fuel →
    ∃ fu' G' H' C', f_L_grind_L23 (nI b) y6 (nI g) fuel (nI l) G U H C E = f_L_grind_L23 (nI b) y6 (nI g) (fu' + 1) (nI 0) G' U H' C' E ∧ loE (tk l L).2 G' H' ∧ rwE (ch ++ mk2 (fun m => 4 * g + 2 * b + m) (tk l L).1) C' ∧ ∀ i, i ≠ 13 → G' i = G i := by
  intro L
  induction L with
  | nil =>
    intro l fuel ch G H C hok hk2 hlo hch hl hl2 hlen hlen2 hf
    obtain ⟨fu, rfl⟩ : ∃ fu, fuel = fu + 1 := ⟨fuel - 1, by omega⟩
    have : l = 0 := Nat.le_zero.mp hl
    subst this
    refine ⟨fu, G, H, C, rfl, hlo, ?_, fun i _ => rfl⟩
    rw [tk_0]
    show rwE (ch ++ []) C
    rw [List.append_nil]
    exact hch
  | cons p L ih =>
    intro l fuel ch G H C hok hk2 hlo hch hl hl2 hlen hlen2 hf
    obtain ⟨fu, rfl⟩ : ∃ fu, fuel = fu + 1 := ⟨fuel - 1, by omega⟩
    simp only [List.length_cons] at hlen hlen2 hf
    by_cases h0 : l = 0
    · subst h0
      refine ⟨fu, G, H, C, rfl, ?_, ?_, fun i _ => rfl⟩
      · rw [tk_0]; exact hlo
      · rw [tk_0]
        show rwE (ch ++ []) C
        rw [List.append_nil]
        exact hch
    · obtain ⟨hp, hok2⟩ := okR_c hok
      have e1 : H 1 = nI p.1 := (hlo.2 0 (Nat.succ_pos _)).2
      have hm := hk2 p List.mem_cons_self
      rw [f_L_grind_L23, if_neg (nI_nle (by omega) (by omega)), cN (n := 1) (by decide), e1]
      by_cases h1 : l < p.1
      · obtain ⟨G', H', C', a1, a2, a3, a4, a5⟩ := L_J44 (r := f_L_grind_L23 (nI b) y6 (nI g) fu) (y6 := y6) (U := U) (E := E) hlo hch hb hg hp.2.1 hm (show 1 ≤ l by omega) (by omega) (Nat.le_refl l) hl2 (by omega) (by omega)
        obtain ⟨fu2, rfl⟩ : ∃ fu2, fu = fu2 + 1 := ⟨fu - 1, by omega⟩
        refine ⟨fu2, G', H', C', ?_, ?_, ?_, a5⟩
        · rw [if_neg (nI_ge (by omega) (by omega)), a1, Nat.sub_self]
        · rw [tk, if_neg h0, if_pos h1]
          exact a4 h1
        · rw [tk, if_neg h0, if_pos h1]
          exact a2
      · obtain ⟨G1, H1, C1, a1, a2, a3, a4, a5⟩ := L_J44 (r := f_L_grind_L23 (nI b) y6 (nI g) fu) (y6 := y6) (U := U) (E := E) (z := p.1) hlo hch hb hg hp.2.1 hm hp.1 (Nat.le_refl _) (by omega) hl2 (by omega) (by omega)
        obtain ⟨fu', G', H', C', b1, b2, b3, b4⟩ := ih (l - p.1) fu (ch ++ [(p.1, 4 * g + 2 * b + p.2)]) G1 H1 C1 hok2 (fun q hq => hk2 q (List.mem_cons_of_mem _ hq)) (a3 rfl) a2 (by simp only [tot] at hl; omega) (by omega) (by omega) (by rw [List.length_append, List.length_singleton]; omega) (by omega)
        refine ⟨fu', G', H', C', ?_, ?_, ?_, fun i hi => (b4 i hi).trans (a5 i hi)⟩
        · rw [← b1, ← a1, if_pos (nI_le (by omega) (by omega))]
        · rw [tk, if_neg h0, if_neg h1]
          exact b2
        · rw [tk, if_neg h0, if_neg h1]
          rw [app1] at b3
          exact b3
theorem L_shc {r : LGf} {y : Int32} {N : Nat} {G U H E : Nat → Int32} (hN : N ≤ 63) : ∀ (m i fuel : Nat) (C : Nat → Int32), 1 ≤ i → i + m = N → m < fuel → C 0 = nI N → ∃ C', f_L_grind_L309 r y y fuel (nI i) G U H C E = f_L_grind_J340 r y y G U H C' E ∧ (∀ k, i ≤ k → k < N → C' k = C (k + 1)) ∧ ∀ k, (k < i ∨ N ≤ k) → C' k = C k := by
  intro m
  induction m with
  | zero =>
    intro i fuel C h1 hi hf h0
    obtain ⟨fu, rfl⟩ : ∃ fu, fuel = fu + 1 := ⟨fuel - 1, by omega⟩
    rw [f_L_grind_L309, cN (n := 0) (by decide), h0, if_pos (nI_le (by omega) (by omega))]
    exact ⟨C, rfl, fun k h1 h2 => absurd h2 (by omega), fun k _ => rfl⟩
  | succ m ih =>
    intro i fuel C h1 hi hf h0
    obtain ⟨fu, rfl⟩ : ∃ fu, fuel = fu + 1 := ⟨fuel - 1, by omega⟩
    obtain ⟨C', a1, a2, a3⟩ := ih (i + 1) fu (upd C i (C (i + 1))) (by omega) (by omega) (by omega) ((pk_un (by omega)).trans h0)
    refine ⟨C', ?_, ?_, ?_⟩
    · rw [f_L_grind_L309, cN (n := 0) (by decide), h0, if_neg (nI_ge (by omega) (by omega)), if_pos rfl, nI_1, gd_t (nI_in (by omega) (by decide)), v_cl (by omega)]
      simp only [lt_v]
      rw [gd_t (nI_in (by omega) (by decide)), v_cl (by omega), a1]
    · intro k h1 h2
      by_cases e : k = i
      · subst e
        rw [a3 _ (Or.inl (by omega)), pk_us]
      · rw [a2 k (by omega) h2, pk_un (by omega)]
    · intro k hk
      rw [a3 k (by omega), pk_un (by omega)]
theorem okE_c {p : Nat × Nat} {L : List (Nat × Nat)} (h : okE (p :: L)) : (1 ≤ p.1 ∧ p.1 < 1000 ∧ 40 ≤ p.2 ∧ p.2 < 2404) ∧ okE L := ⟨h p List.mem_cons_self, fun q hq => h q (List.mem_cons_of_mem _ hq)⟩
theorem okE_cc {p : Nat × Nat} {L : List (Nat × Nat)} (h : 1 ≤ p.1 ∧ p.1 < 1000 ∧ 40 ≤ p.2 ∧ p.2 < 2404) (h2 : okE L) : okE (p :: L) := fun q hq => by
  rcases List.mem_cons.mp hq with rfl | hq
  · exact h
  · exact h2 q hq
theorem L_J272 {r : LGf} {v z : Nat} {p : Nat × Nat} {L ba : List (Nat × Nat)} {G U H C E : Nat → Int32} (hch : rwE (p :: L) C) (hba : rwE ba E) (hok : okE (p :: L)) (hz0 : 1 ≤ z) (hz : z ≤ p.1) (hlen : L.length ≤ 62) (hlen2 : ba.length < 63) (h9 : G 9 = nI v) :
    ∃ C' E', f_L_grind_J272 r (nI p.1) (nI z) G U H C E = r (nI (tot (if z = p.1 then L else (p.1 - z, p.2) :: L)) - nI v) G U H C' E' ∧ rwE (ba ++ [(z, p.2)]) E' ∧ rwE (if z = p.1 then L else (p.1 - z, p.2) :: L) C' := by
  obtain ⟨hp, hok2⟩ := okE_c hok
  have hl := en_lt hp.2.1 hp.2.2.2
  have e0 : C 0 = nI (L.length + 1) := hch.1
  have e1 : C 1 = nI (en p) := hch.2 0 (Nat.succ_pos _)
  have eb : E 0 = nI ba.length := hba.1
  have ev : nI (en p) - nI p.1 + nI z = nI (en (z, p.2)) := by
    rw [pk_sub (by unfold en; omega), nI_add]
    exact nI_inj (by unfold en; show _ = z + 1000 * p.2; omega)
  have es : nI (en p) - nI z = nI (en (p.1 - z, p.2)) := by
    rw [pk_sub (by unfold en; omega)]
    exact nI_inj (by unfold en; show _ = p.1 - z + 1000 * p.2; omega)
  generalize hT : upd (upd E 0 (nI (ba.length + 1))) (ba.length + 1) (nI (en (z, p.2))) = T
  have hrw : rwE (ba ++ [(z, p.2)]) T := by
    refine ⟨?_, fun k hk => ?_⟩
    · rw [← hT, pk_un (by omega), pk_us, List.length_append]; rfl
    · rw [List.length_append, List.length_singleton] at hk
      by_cases e : k = ba.length
      · subst e
        have := lk_r (L := ba) (K := [(z, p.2)]) (k := 0)
        rw [Nat.add_zero, lk_0] at this
        rw [this, ← hT, pk_us]
      · rw [lk_l (by omega), ← hT, pk_un (by omega), pk_un (by omega)]
        exact hba.2 k (by omega)
  have st : f_L_grind_J272 r (nI p.1) (nI z) G U H C E = f_L_grind_L309 r (nI p.1) (nI z) FU (1 : Int32) G U H (upd C 1 (nI (en (p.1 - z, p.2)))) T := by
    rw [f_L_grind_J272]
    simp only [lt_v, cN (n := 0) (by decide), cN (n := 1) (by decide), pk_us]
    rw [eb, nI_1, e1, ev, es, gd_t (nI_in (by omega) (by decide)), v_cl (by omega), hT]
  rw [st]
  by_cases c : z = p.1
  · rw [if_pos c, c]
    obtain ⟨C', a1, a2, a3⟩ := L_shc (r := r) (y := nI p.1) (N := L.length + 1) (G := G) (U := U) (H := H) (E := T) (by omega) L.length 1 FU (upd C 1 (nI (en (p.1 - p.1, p.2)))) (Nat.le_refl 1) (by omega) (by show _ < 20000; omega) ((pk_un (by decide)).trans e0)
    have hC : rwE L (upd C' 0 (nI L.length)) := by
      refine ⟨pk_us, fun k hk => ?_⟩
      have h1 := hch.2 (k + 1) (by simp only [List.length_cons]; omega)
      rw [lk_s] at h1
      rw [pk_un (by omega), a2 (k + 1) (by omega) (by omega), pk_un (by omega)]
      exact h1
    refine ⟨upd C' 0 (nI L.length), T, ?_, (by rw [c] at hrw; exact hrw), hC⟩
    rw [fa_lit 1, a1, f_L_grind_J340, if_pos rfl, cN (n := 0) (by decide), a3 0 (Or.inl (by decide)), pk_un (by decide), e0, f_L_grind_J356, nI_pred, lt_v, gd_t (by decide), lt_v, cN (n := 0) (by decide), L_amounts hC hok2 (by omega), Option.bind_some, cN (n := 9) (by decide), h9, lt_v]
  · rw [if_neg c]
    have hFU : FU = 19999 + 1 := rfl
    have hok3 : okE ((p.1 - z, p.2) :: L) := okE_cc ⟨by show 1 ≤ p.1 - z; omega, by show p.1 - z < 1000; omega, hp.2.2⟩ hok2
    have hC : rwE ((p.1 - z, p.2) :: L) (upd (upd C 1 (nI (en (p.1 - z, p.2)))) 0 (nI (L.length + 1))) := by
      refine ⟨pk_us, fun k hk => ?_⟩
      cases k with
      | zero => rw [lk_0, pk_un (by decide), pk_us]
      | succ k =>
        simp only [List.length_cons] at hk
        have h1 := hch.2 (k + 1) (by simp only [List.length_cons]; omega)
        rw [lk_s] at h1 ⊢
        rw [pk_un (by omega), pk_un (by omega)]
        exact h1
    have hne : ¬ nI z = nI p.1 := fun q => c ((nI_eq (by omega) (by omega)).mp q)
    refine ⟨_, T, ?_, hrw, hC⟩
    have hJ : f_L_grind_J340 r (nI p.1) (nI z) G U H (upd C 1 (nI (en (p.1 - z, p.2)))) T = r (nI (tot ((p.1 - z, p.2) :: L)) - nI v) G U H (upd (upd C 1 (nI (en (p.1 - z, p.2)))) 0 (nI (L.length + 1))) T := by
      rw [f_L_grind_J340, if_neg hne, cN (n := 0) (by decide), pk_un (by decide), e0, f_L_grind_J356, ← nI_0, pk_sub (Nat.zero_le _), Nat.sub_zero, lt_v, gd_t (by decide), lt_v, show (nI 0).toNatClampNeg = 0 from rfl, L_amounts hC hok3 (by simp only [List.length_cons]; omega), Option.bind_some, cN (n := 9) (by decide), h9, lt_v]
    rw [hFU, f_L_grind_L309, if_neg hne, hJ]
    by_cases c3 : (upd C 1 (nI (en (p.1 - z, p.2)))) (0 : Int32).toNatClampNeg ≤ (1 : Int32)
    · rw [if_pos c3]
    · rw [if_neg c3]
theorem L_ov {v : Nat} {G U H : Nat → Int32} (h9 : G 9 = nI v) (hv : v ≤ 100) : ∀ (L : List (Nat × Nat)) (fuel : Nat) (ba : List (Nat × Nat)) (C E : Nat → Int32), okE L → rwE L C → rwE ba E → tot L < 2 ^ 20 → L.length ≤ 63 → ba.length + (tk (tot L - v) L).1.length ≤ 63 → L.length < fuel →
    ∃ C' E', f_L_grind_L244 fuel (nI (tot L) - nI v) G U H C E = some (G, U, H, C', E') ∧ rwE (tk (tot L - v) L).2 C' ∧ rwE (ba ++ (tk (tot L - v) L).1) E' := by
  have z0 : ∀ (t fu : Nat) (C E : Nat → Int32), t ≤ v → f_L_grind_L244 (fu + 1) (nI t - nI v) G U H C E = some (G, U, H, C, E) := fun t fu C E ht => by
    rw [f_L_grind_L244, if_pos]
    by_cases e : t = v
    · rw [e, pk_sub (Nat.le_refl _), Nat.sub_self, nI_0]; exact Int32.le_refl 0
    · exact Int32.le_of_lt (pk_sneg (by omega) (by omega))
  intro L
  induction L with
  | nil =>
    intro fuel ba C E hok hch hba ht hlen hlen2 hf
    obtain ⟨fu, rfl⟩ : ∃ fu, fuel = fu + 1 := ⟨fuel - 1, by omega⟩
    refine ⟨C, E, z0 0 fu C E (Nat.zero_le _), ?_, ?_⟩
    · rw [show tot [] - v = 0 by simp [tot], tk_0]; exact hch
    · rw [show tot [] - v = 0 by simp [tot], tk_0, List.append_nil]; exact hba
  | cons p L ih =>
    intro fuel ba C E hok hch hba ht hlen hlen2 hf
    obtain ⟨fu, rfl⟩ : ∃ fu, fuel = fu + 1 := ⟨fuel - 1, by omega⟩
    have htt : tot (p :: L) = p.1 + tot L := rfl
    simp only [List.length_cons] at hlen hf
    by_cases h0 : tot (p :: L) ≤ v
    · refine ⟨C, E, z0 _ fu C E h0, ?_, ?_⟩
      · rw [show tot (p :: L) - v = 0 by omega, tk_0]; exact hch
      · rw [show tot (p :: L) - v = 0 by omega, tk_0, List.append_nil]; exact hba
    · obtain ⟨hp, hok2⟩ := okE_c hok
      have hl := en_lt hp.2.1 hp.2.2.2
      have e1 : C 1 = nI (en p) := hch.2 0 (Nat.succ_pos _)
      have em : en p % 1000 = p.1 := by unfold en; omega
      generalize hll : tot (p :: L) - v = l at hlen2 ⊢
      have st : f_L_grind_L244 (fu + 1) (nI (tot (p :: L)) - nI v) G U H C E = (if nI l ≤ nI p.1 then f_L_grind_J272 (f_L_grind_L244 fu) (nI p.1) (nI l) G U H C E else f_L_grind_J272 (f_L_grind_L244 fu) (nI p.1) (nI p.1) G U H C E) := by
        rw [f_L_grind_L244, pk_sub (by omega), hll, if_neg (nI_nle (by omega) (by omega)), cN (n := 1) (by decide), e1, fa_lit 1000, pk_rem (by omega) (by decide) (by decide), em, lt_v]
      by_cases h1 : l < p.1
      · rw [tk, if_neg (by omega), if_pos h1] at hlen2 ⊢
        simp only [List.length_cons, List.length_nil] at hlen2
        obtain ⟨C', E', a1, a2, a3⟩ := L_J272 (r := f_L_grind_L244 fu) (U := U) (H := H) (z := l) hch hba hok (by omega) (by omega) (by omega) (by omega) h9
        rw [if_neg (show ¬ l = p.1 by omega)] at a1 a3
        obtain ⟨fu2, rfl⟩ : ∃ fu2, fu = fu2 + 1 := ⟨fu - 1, by omega⟩
        refine ⟨C', E', ?_, a3, a2⟩
        rw [st, if_pos (nI_le (by omega) (by omega)), a1]
        exact z0 _ fu2 C' E' (by simp only [tot]; omega)
      · rw [tk, if_neg (by omega), if_neg h1] at hlen2 ⊢
        simp only [List.length_cons] at hlen2
        obtain ⟨C1, E1, a1, a2, a3⟩ := L_J272 (r := f_L_grind_L244 fu) (U := U) (H := H) (z := p.1) hch hba hok hp.1 (Nat.le_refl _) (by omega) (by omega) h9
        rw [if_pos rfl] at a1 a3
        have hl2 : l - p.1 = tot L - v := by omega
        rw [hl2] at hlen2 ⊢
        obtain ⟨C', E', b1, b2, b3⟩ := ih fu (ba ++ [(p.1, p.2)]) C1 E1 hok2 a3 a2 (by omega) (by omega) (by rw [List.length_append, List.length_singleton]; omega) (by omega)
        refine ⟨C', E', ?_, b2, ?_⟩
        · rw [st, ← b1, ← a1]
          by_cases h2 : l = p.1
          · rw [if_pos (nI_le (by omega) (by omega)), h2]
          · rw [if_neg (nI_ge (by omega) (by omega))]
        · rw [app1] at b3
          exact b3
end
section
/-! the law's grinding as a whole; what it asks before -/
theorem good2 {b a hi : Nat} (hb : b < 2) (ha : 1 ≤ a) (ha2 : a ≤ hi) (hh : hi < 2 ^ 31) : ¬ bad2 (nI b) (nI a) hi := fun q => by
  rcases q with q | q | q
  · refine q ?_
    rcases (show b = 0 ∨ b = 1 by omega) with rfl | rfl
    · exact Or.inl nI_0
    · exact Or.inr rfl
  · exact nI_nlt (a := a) (b := 1) ha (by omega) q
  · exact nI_nlt (a := hi) (b := a) ha2 hh q
theorem L_can {lo ch ba : List (Nat × Nat)} {v : Nat → Nat} {b a : Nat} {G H C E : Nat → Int32} (hlo : loE lo G H) (hch : rwE ch C) (hba : rwE ba E) (hs : stE v G) (hv : stK v) (k4 : lo.length ≤ 6) (o1 : okE ch) (o2 : okE ba) (l1 : ch.length ≤ 63) (l2 : ba.length ≤ 63) (t0 : tot lo ≤ 4000) (t1 : tot ch ≤ 100) (t2 : tot ba ≤ 400) (hb : b < 2) (ha : 1 ≤ a) (ha2 : a ≤ 400) : f_L_can (nI a) G H C E = some (a_grind (nI b) (nI a) lo ch ba (v 2)) := by
  have e9 : G 9 = nI (v 2) := hs 2 (by decide)
  have hc := hv.2.2.2.1
  unfold a_grind
  rw [if_neg (good2 hb ha ha2 (by decide)), v_cl (by omega), f_L_can, L_hopper hlo k4, L_amounts hch o1 l1, Option.bind_some, Option.bind_some]
  by_cases c3 : tot lo < a
  · rw [if_neg (nI_ge c3 (by omega)), if_pos c3]
  · have hz : ∀ z : Nat, z ≤ 500 → f_L_can_J43 G H C E (nI z) = some (if 400 < tot ba + z then cLR else nI z) := fun z hz => by
      rw [f_L_can_J43, L_amounts hba o2 l2, Option.bind_some, nI_add, fa_lit 400]
      by_cases c4 : 400 < tot ba + z
      · rw [if_neg (nI_ge c4 (by omega)), if_pos c4]
      · rw [if_pos (nI_le (by omega) (by omega)), if_neg c4]
    rw [if_pos (nI_le (by omega) (by omega)), if_neg c3, cN (n := 9) (by decide), e9, nI_add]
    by_cases c4 : tot ch + a ≤ v 2
    · have e0 : g_out ch a (v 2) = 0 := by unfold g_out; omega
      rw [if_pos (nI_le c4 (by omega)), e0, ← nI_0, hz 0 (by decide)]
    · rw [if_neg (nI_ge (by omega) (by omega)), Option.bind_some, nI_add, pk_sub (by omega), hz _ (by omega)]
      rfl
theorem L_grind {lo ch ba : List (Nat × Nat)} {x : Bu} {v b a : Nat} {gr : Int32} {G U H C E : Nat → Int32} (hlo : loE lo G H) (hch : rwE ch C) (hba : rwE ba E) (hx : buE b x U) (hxb : buK x) (h9 : G 9 = nI v) (hv : v ≤ 100) (h2 : G 2 = gr) (k1 : okR lo) (k2 : ∀ p ∈ lo, p.2 < 2) (k4 : lo.length ≤ 6) (k5 : okR ch) (k6 : mkK ch) (t1 : tot ch ≤ 100) (hb : b < 2) (ha : 1 ≤ a) (ha2 : a ≤ 400) (hl : a ≤ tot lo) (hlen : ch.length + ba.length ≤ 46) :
    ∃ G' U' H' C' E', f_L_grind (nI b) (nI a) G U H C E = some (G', U', H', C', E') ∧ loE (tk a lo).2 G' H' ∧ rwE (tk (g_out ch a v) (g_in lo ch x.1 x.2.1 b a)).2 C' ∧ rwE (ba ++ (tk (g_out ch a v) (g_in lo ch x.1 x.2.1 b a)).1) E' ∧ U' (4 * b + 1) = nI (buG x a).2.1 ∧ U' (4 * b + 2) = (buG x a).2.2.1 ∧ G' 2 = gr + nI a ∧ (∀ i, i ≠ 2 → i ≠ 13 → G' i = G i) ∧ ∀ i, i ≠ 4 * b + 1 → i ≠ 4 * b + 2 → U' i = U i := by
  obtain ⟨x1, x2, x3⟩ := id hxb
  have hg := gp_le (d := x.1) (w := x.2.1) x2
  obtain ⟨fu', G1, H1, C1, a1, a2, a3, a4⟩ := L_in (g := gp x.1 x.2.1) (y6 := nI a) (U := U) (E := E) hb hg lo a FU ch G H C k1 k2 hlo hch hl ha2 k4 (by omega) (by show _ < 20000; omega)
  have tg := g_in_tot (ch := ch) (d := x.1) (w := x.2.1) (b := b) hl
  have og := g_in_ok (lo := lo) (ch := ch) (d := x.1) (w := x.2.1) (b := b) (a := a) k1 k2 k5 x2 hb
  have mg := g_in_mk (lo := lo) (ch := ch) (d := x.1) (w := x.2.1) (b := b) (a := a) k2 k6 x2 hb
  have ng := g_in_len (lo := lo) (ch := ch) (d := x.1) (w := x.2.1) (b := b) (a := a)
  have hgo : g_out ch a v = tot (g_in lo ch x.1 x.2.1 b a) - v := by rw [tg]; rfl
  have oe : okE (g_in lo ch x.1 x.2.1 b a) := okE_of og mg (by omega)
  have hC1 : rwE (g_in lo ch x.1 x.2.1 b a) C1 := a3
  have nt := tk_len (g_in lo ch x.1 x.2.1 b a) (g_out ch a v)
  rw [hgo] at nt ⊢
  generalize hgi : g_in lo ch x.1 x.2.1 b a = gi at *
  have i0 : (4 : Int32) * nI b = nI (4 * b) := by rw [fa_lit 4, pk_mul]
  have i1 : nI (4 * b) + (1 : Int32) = nI (4 * b + 1) := nI_1 _
  have i2 : nI (4 * b) + (2 : Int32) = nI (4 * b + 2) := by rw [fa_lit 2, nI_add]
  have g0 : ¬ (nI (4 * b) < 0 ∨ 8 ≤ (nI (4 * b)).toNatClampNeg) := nI_in (by omega) (by decide)
  have g1 : ¬ (nI (4 * b + 1) < 0 ∨ 8 ≤ (nI (4 * b + 1)).toNatClampNeg) := nI_in (by omega) (by decide)
  have g2 : ¬ (nI (4 * b + 2) < 0 ∨ 8 ≤ (nI (4 * b + 2)).toNatClampNeg) := nI_in (by omega) (by decide)
  have c0 : (nI (4 * b)).toNatClampNeg = 4 * b := v_cl (by omega)
  have c1 : (nI (4 * b + 1)).toNatClampNeg = 4 * b + 1 := v_cl (by omega)
  have c2 : (nI (4 * b + 2)).toNatClampNeg = 4 * b + 2 := v_cl (by omega)
  have q : ∀ (w : Nat) (Z : Nat → Int32), Z (4 * b + 2) = x.2.2.1 → f_L_grind_J211 (nI b) (nI a) (nI w) (nI (4 * b + 1)) G1 Z H1 C1 E = f_L_grind_L244 FU (nI (tot gi) - nI v) (upd G1 2 (gr + nI a)) (upd (upd Z (4 * b + 1) (nI w)) (4 * b + 2) (x.2.2.1 + nI a)) H1 C1 E := fun w Z hZ => by
    have u1 : upd Z (4 * b + 1) (nI w) (4 * b + 2) = x.2.2.1 := (pk_un (by omega)).trans hZ
    rw [f_L_grind_J211, gd_t g1, c1]
    simp only [lt_v]
    rw [i0, i2, gd_t g2, gd_t g2, c2, u1, cN (n := 2) (by decide), a4 2 (by decide), h2, L_amounts hC1 oe (by omega), Option.bind_some, cN (n := 9) (by decide), pk_un (by decide), a4 9 (by decide), h9]
  have hU : ∀ w : Nat, ∃ C' E', f_L_grind_L244 FU (nI (tot gi) - nI v) (upd G1 2 (gr + nI a)) (upd (upd (upd U (4 * b + 1) (nI (x.2.1 + a / 4))) (4 * b + 1) (nI w)) (4 * b + 2) (x.2.2.1 + nI a)) H1 C1 E = some (upd G1 2 (gr + nI a), upd (upd (upd U (4 * b + 1) (nI (x.2.1 + a / 4))) (4 * b + 1) (nI w)) (4 * b + 2) (x.2.2.1 + nI a), H1, C', E') ∧ rwE (tk (tot gi - v) gi).2 C' ∧ rwE (ba ++ (tk (tot gi - v) gi).1) E' := fun w =>
    L_ov (v := v) (G := upd G1 2 (gr + nI a)) ((pk_un (by decide)).trans ((a4 9 (by decide)).trans h9)) hv gi FU ba C1 E oe hC1 hba (by omega) (by omega) (by omega) (by show _ < 20000; omega)
  have hfin : f_L_grind (nI b) (nI a) G U H C E = f_L_grind_L244 FU (nI (tot gi) - nI v) (upd G1 2 (gr + nI a)) (upd (upd (upd U (4 * b + 1) (nI (x.2.1 + a / 4))) (4 * b + 1) (nI (min 300 (x.2.1 + a / 4)))) (4 * b + 2) (x.2.2.1 + nI a)) H1 C1 E := by
    rw [f_L_grind, i0, i1, gd_t g0, gd_t g1, c0, c1, hx.1, hx.2.1, L_gap (by omega) (by omega), Option.bind_some, a1, f_L_grind_L23, if_pos (by rw [nI_0]; exact Int32.le_refl 0), i0, i1]
    simp only [lt_v]
    rw [gd_t g1, gd_t g1, gd_t g1, gd_t g1, c1, hx.2.1, fa_lit 4, pk_div (by omega) (by decide) (by decide), nI_add, pk_us, fa_lit 300]
    have hz : upd U (4 * b + 1) (nI (x.2.1 + a / 4)) (4 * b + 2) = x.2.2.1 := (pk_un (by omega)).trans hx.2.2.1
    by_cases c : 300 ≤ x.2.1 + a / 4
    · rw [if_pos (nI_le c (by omega)), q 300 _ hz, show min 300 (x.2.1 + a / 4) = 300 by omega]
    · rw [if_neg (nI_ge (by omega) (by omega)), q _ _ hz, show min 300 (x.2.1 + a / 4) = x.2.1 + a / 4 by omega]
  obtain ⟨C', E', b1, b2, b3⟩ := hU (min 300 (x.2.1 + a / 4))
  refine ⟨_, _, _, C', E', hfin.trans b1, ⟨?_, fun k hk => a2.2 k hk⟩, b2, b3, ?_, ?_, pk_us, fun i i2 i13 => ?_, fun i i1 i2 => ?_⟩
  · rw [pk_un (by decide)]; exact a2.1
  · rw [pk_un (by omega), pk_us]; rfl
  · rw [pk_us]; rfl
  · rw [pk_un i2]; exact a4 i i13
  · rw [pk_un i2, pk_un i1, pk_un i1]
end
section
/-! the law's shots and corrections -/
theorem L_brew_L {v : Nat → Nat} {L : List (Nat × Nat)} {G A : Nat → Int32} (hs : stE v G) (hv : stK v) (h : rwE L A) (hok : okE L) (hb : L.length ≤ 63) (hT : tot L ≤ 400) (h0 : 0 < tot L) : ∀ (m i s fuel : Nat) (Lr : List (Nat × Nat)), Lr.length = m → i + m = L.length → (∀ k : Nat, k < m → lk Lr k = lk L (i + k)) → m < fuel → s + sumF v Lr ≤ 400 * 30000 → f_L_brew_L4 G A fuel (nI s) (nI (i + 1)) = some (nI ((s + sumF v Lr) / tot L)) := by
  intro m
  induction m with
  | zero =>
    intro i s fuel Lr hL hi hk hf hsm
    obtain ⟨fu, rfl⟩ : ∃ fu, fuel = fu + 1 := ⟨fuel - 1, by omega⟩
    have hL0 : Lr = [] := List.length_eq_zero_iff.mp hL
    subst hL0
    rw [f_L_brew_L4, cN (n := 0) (by decide), h.1, if_pos (nI_lt (by omega) (by omega)), L_amounts h hok hb, Option.bind_some, gd_t (nI_ne0 h0 (by omega)), pk_div (by omega) h0 (by omega)]
    rfl
  | succ m ih =>
    intro i s fuel Lr hL hi hk hf hsm
    obtain ⟨fu, rfl⟩ : ∃ fu, fuel = fu + 1 := ⟨fuel - 1, by omega⟩
    match Lr, hL with
    | p :: Lr, hL =>
      simp only [List.length_cons] at hL
      have h1 := hk 0 (by omega)
      rw [lk_0, Nat.add_zero] at h1
      have hp := hok (lk L i) (lk_m (by omega))
      have hl := en_lt hp.2.1 hp.2.2.2
      have e1 : en (lk L i) % 1000 = (lk L i).1 := by unfold en; omega
      simp only [sumF] at hsm ⊢
      have ih' := ih (i + 1) (s + p.1 * flm v p.2) fu Lr (by omega) (by omega) (fun k q => by
        have := hk (k + 1) (by omega)
        rw [lk_s] at this
        rw [this, show i + (k + 1) = i + 1 + k by omega]) (by omega) (by omega)
      have gi : ¬ (nI (i + 1) < 0 ∨ 64 ≤ (nI (i + 1)).toNatClampNeg) := nI_in (by omega) (by decide)
      rw [f_L_brew_L4, cN (n := 0) (by decide), h.1, if_neg (nI_nlt (by omega) (by omega)), gd_t gi, gd_t gi, v_cl (by omega), h.2 i (by omega), L_flow hs hv hp.2.1 hp.2.2.1 hp.2.2.2, Option.bind_some]
      simp only [lt_v]
      rw [fa_lit 1000, pk_rem (by omega) (by decide) (by decide), e1, pk_mul, nI_add, nI_1, ← h1, ih', Nat.add_assoc]
theorem L_brew {v : Nat → Nat} {L : List (Nat × Nat)} {G A : Nat → Int32} (hs : stE v G) (hv : stK v) (h : rwE L A) (hok : okE L) (hb : L.length ≤ 63) (hT : tot L ≤ 400) (h0 : 0 < tot L) : f_L_brew G A = some (nI (timeS v L)) := by
  have hsum := sumF_le hv L
  have := L_brew_L hs hv h hok hb hT h0 L.length 0 0 FU L rfl (by omega) (fun k _ => by rw [Nat.zero_add]) (by show _ < 20000; omega) (by omega)
  rw [nI_0, Nat.zero_add, Nat.zero_add] at this
  exact this
theorem L_correct {b t g : Nat} {x : Bu} {G U : Nat → Int32} (hb : b < 2) (hx : buE b x U) (hxb : buK x) (h7 : G 7 = nI g) (ht : t ≤ 30000) (hg : 100 ≤ g) (hg2 : g ≤ 600) : f_L_correct (nI b) (nI t) G U = some (upd (upd U (4 * b) (nI (cor x.1 t g))) (4 * b + 3) (x.2.2.2 + 1)) := by
  have hdt : x.1 * t ≤ 60 * 30000 := Nat.mul_le_mul hxb.2.1 ht
  have i0 : (4 : Int32) * nI b = nI (4 * b) := by rw [fa_lit 4, pk_mul]
  have i3 : nI (4 * b) + (3 : Int32) = nI (4 * b + 3) := by rw [fa_lit 3, nI_add]
  have g0 : ¬ (nI (4 * b) < 0 ∨ 8 ≤ (nI (4 * b)).toNatClampNeg) := nI_in (by omega) (by decide)
  have g3 : ¬ (nI (4 * b + 3) < 0 ∨ 8 ≤ (nI (4 * b + 3)).toNatClampNeg) := nI_in (by omega) (by decide)
  have c0 : (nI (4 * b)).toNatClampNeg = 4 * b := v_cl (by omega)
  have c3 : (nI (4 * b + 3)).toNatClampNeg = 4 * b + 3 := v_cl (by omega)
  have q : ∀ d : Nat, f_L_correct_J48 G (nI b) (nI d) (nI (4 * b)) U = some (upd (upd U (4 * b) (nI d)) (4 * b + 3) (x.2.2.2 + 1)) := fun d => by
    have u3 : upd U (4 * b) (nI d) (4 * b + 3) = x.2.2.2 := (pk_un (by omega)).trans hx.2.2.2
    rw [f_L_correct_J48, gd_t g0, c0]
    simp only [lt_v]
    rw [i0, i3, gd_t g3, gd_t g3, c3, u3]
  rw [f_L_correct, i0, gd_t g0, c0, hx.1, cN (n := 7) (by decide), h7, gd_t (nI_ne0 (by omega) (by omega)), fa_lit 2, pk_mul, pk_div (a := g) (d := 2) (by omega) (by decide) (by decide), nI_add]
  unfold cor
  generalize x.1 * t = m at hdt ⊢
  rw [pk_div (by omega) (by omega) (by omega), lt_v, fa_lit 60]
  have hz : (m + g / 2) / g ≤ m + g / 2 := Nat.div_le_self _ _
  generalize (m + g / 2) / g = z at hz ⊢
  by_cases h1 : z ≤ 60
  · rw [if_pos (nI_le h1 (by decide))]
    by_cases h2 : z = 0
    · subst h2
      rw [if_pos (by rw [nI_0]; exact Int32.le_refl 0), fa_lit 1, q 1]
      rfl
    · rw [if_neg (nI_nle (by omega) (by omega)), q z, show max 1 (min 60 z) = z by omega]
  · rw [if_neg (nI_ge (by omega) (by omega)), q 60, show max 1 (min 60 z) = 60 by omega]
/-- what has not got the bit -/
def fN (b : Nat → Bool) : List (Nat × Nat) → Nat
  | [] => 0
  | p :: L => (if b p.2 then 0 else p.1) + fN b L
theorem fN_sum (b : Nat → Bool) : ∀ L : List (Nat × Nat), fN b L + sumIf b L = tot L
  | [] => rfl
  | p :: L => by
    have := fN_sum b L
    simp only [fN, sumIf, tot]
    split <;> omega
theorem mostly_fN (b : Nat → Bool) (L : List (Nat × Nat)) : mostly b L = if fN b L < tot L - fN b L then 1 else 0 := by
  have := fN_sum b L
  unfold mostly
  by_cases c : tot L < 2 * sumIf b L
  · rw [if_pos c, if_pos (by omega)]
  · rw [if_neg c, if_neg (by omega)]
abbrev LSh : Type := Int32 × (Nat → Int32) × (Nat → Int32) × (Nat → Int32) × (Nat → Int32) × (Nat → Int32) × Sp
theorem L_sh43 {L : List (Nat × Nat)} {G U E T X : Nat → Int32} {σ : Sp} {y6 y7 : Int32} (h : rwE L E) (hok : okE L) (hb : L.length ≤ 63) : ∀ (m i f p fuel : Nat) (Lr : List (Nat × Nat)), Lr.length = m → i + m = L.length → (∀ k : Nat, k < m → lk Lr k = lk L (i + k)) → m < fuel → f_L_shoots_L43 y6 y7 fuel (nI f) (nI p) (nI (i + 1)) G U E T X σ = f_L_shoots_L121 y6 y7 (nI (f + fN isB Lr)) (nI (p + fN isK Lr)) FU (47 : Int32) G U E T X σ := by
  intro m
  induction m with
  | zero =>
    intro i f p fuel Lr hL hi hk hf
    obtain ⟨fu, rfl⟩ : ∃ fu, fuel = fu + 1 := ⟨fuel - 1, by omega⟩
    have hL0 : Lr = [] := List.length_eq_zero_iff.mp hL
    subst hL0
    rw [f_L_shoots_L43, cN (n := 0) (by decide), h.1, if_pos (nI_lt (by omega) (by omega))]
    rfl
  | succ m ih =>
    intro i f p fuel Lr hL hi hk hf
    obtain ⟨fu, rfl⟩ : ∃ fu, fuel = fu + 1 := ⟨fuel - 1, by omega⟩
    match Lr, hL with
    | q :: Lr, hL =>
      simp only [List.length_cons] at hL
      have h1 := hk 0 (by omega)
      rw [lk_0, Nat.add_zero] at h1
      have hp := hok (lk L i) (lk_m (by omega))
      rw [← h1] at hp
      have hl := en_lt hp.2.1 hp.2.2.2
      have e0 : en q % 1000 = q.1 := by unfold en; omega
      have e1 : en q / 1000 % 2 = q.2 % 2 := by unfold en; omega
      have e2 : en q / 2000 % 2 = q.2 / 2 % 2 := by unfold en; omega
      have gi : ¬ (nI (i + 1) < 0 ∨ 64 ≤ (nI (i + 1)).toNatClampNeg) := nI_in (by omega) (by decide)
      have ih' := fun f p => ih (i + 1) f p fu Lr (by omega) (by omega) (fun k q => by
        have := hk (k + 1) (by omega)
        rw [lk_s] at this
        rw [this, show i + (k + 1) = i + 1 + k by omega]) (by omega)
      have h108 : ∀ f p z : Nat, f_L_shoots_J108 (f_L_shoots_L43 y6 y7 fu) y6 y7 (nI f) (nI (i + 1)) (nI z) (nI p) G U E T X σ = f_L_shoots_L121 y6 y7 (nI (f + fN isB Lr)) (nI (p + z + fN isK Lr)) FU (47 : Int32) G U E T X σ := fun f p z => by
        rw [f_L_shoots_J108, lt_v, lt_v, nI_add, nI_1, ih']
      have h78 : ∀ f z : Nat, f_L_shoots_J78 (f_L_shoots_L43 y6 y7 fu) y6 y7 (nI p) (nI (i + 1)) (nI z) (nI f) G U E T X σ = f_L_shoots_L121 y6 y7 (nI (f + z + fN isB Lr)) (nI (p + fN isK (q :: Lr))) FU (47 : Int32) G U E T X σ := fun f z => by
        rw [f_L_shoots_J78, lt_v, nI_add, gd_t gi, gd_t gi, v_cl (by omega), h.2 i (by omega), ← h1, fa_lit 1000, fa_lit 2, pk_rem (a := en q) (d := 1000) (by omega) (by decide) (by decide), pk_div (a := en q) (d := 1000) (by omega) (by decide) (by decide), pk_rem (by omega) (by decide) (by decide), e0, e1]
        by_cases c : q.2 % 2 = 0
        · rw [if_pos (by rw [c]; exact nI_0), h108, show fN isK (q :: Lr) = q.1 + fN isK Lr by simp [fN, isK, c], Nat.add_assoc p]
        · rw [if_neg (nI_ne0 (by omega) (by omega)), ← nI_0, h108, show fN isK (q :: Lr) = fN isK Lr by simp [fN, isK, show q.2 % 2 = 1 by omega], Nat.add_zero]
      rw [f_L_shoots_L43, cN (n := 0) (by decide), h.1, if_neg (nI_nlt (by omega) (by omega)), gd_t gi, gd_t gi, v_cl (by omega), h.2 i (by omega), ← h1, fa_lit 2000, fa_lit 2, fa_lit 1000, pk_div (a := en q) (d := 2000) (by omega) (by decide) (by decide), pk_rem (by omega) (by decide) (by decide), pk_rem (by omega) (by decide) (by decide), e0, e2]
      by_cases c : q.2 / 2 % 2 = 0
      · rw [if_pos (by rw [c]; exact nI_0), h78, show fN isB (q :: Lr) = q.1 + fN isB Lr by simp [fN, isB, c], Nat.add_assoc f]
      · rw [if_neg (nI_ne0 (by omega) (by omega)), ← nI_0, h78, show fN isB (q :: Lr) = fN isB Lr by simp [fN, isB, show q.2 / 2 % 2 = 1 by omega], Nat.add_zero]
theorem L_sh121 {G U E T : Nat → Int32} {σ : Sp} {y6 y7 y8 y9 : Int32} : ∀ (m fuel : Nat) (X : Nat → Int32), m ≤ 44 → m < fuel → ∃ X', f_L_shoots_L121 y6 y7 y8 y9 fuel (nI (m + 3)) G U E T X σ = f_L_shoots_L149 y6 y7 y8 y9 FU (35 : Int32) G U E T X' σ ∧ (∀ k, 4 ≤ k → k ≤ m + 3 → X' k = X (k - 4)) ∧ ∀ k, (k < 4 ∨ m + 3 < k) → X' k = X k := by
  intro m
  induction m with
  | zero =>
    intro fuel X hm hf
    obtain ⟨fu, rfl⟩ : ∃ fu, fuel = fu + 1 := ⟨fuel - 1, by omega⟩
    rw [f_L_shoots_L121, if_pos (by rw [fa_L]; exact nI_le (by omega) (by omega))]
    exact ⟨X, rfl, fun k h1 h2 => absurd h2 (by omega), fun k _ => rfl⟩
  | succ m ih =>
    intro fuel X hm hf
    obtain ⟨fu, rfl⟩ : ∃ fu, fuel = fu + 1 := ⟨fuel - 1, by omega⟩
    obtain ⟨X', a1, a2, a3⟩ := ih fu (upd X (m + 4) (X m)) (by omega) (by omega)
    refine ⟨X', ?_, ?_, ?_⟩
    · rw [f_L_shoots_L121, if_neg (by rw [fa_L]; exact nI_ge (by omega) (by omega)), fa_lit 4, show m + 1 + 3 = m + 4 by omega, pk_sub (by omega), show m + 4 - 4 = m by omega, gd_t (nI_in (by omega) (by decide)), v_cl (by omega)]
      simp only [lt_v]
      rw [gd_t (nI_in (by omega) (by decide)), v_cl (by omega), show m + 4 = m + 3 + 1 by omega, pk_m1, show m + 3 + 1 = m + 4 by omega, a1]
    · intro k h1 h2
      by_cases e : k = m + 4
      · subst e
        rw [a3 _ (Or.inr (by omega)), pk_us, Nat.add_sub_cancel]
      · rw [a2 k h1 (by omega), pk_un (by omega)]
    · intro k hk
      rw [a3 k (by omega), pk_un (by omega)]
/-- behind the rows' shifting -/
noncomputable def LS1 (y6 y7 y8 y9 : Int32) (G U E T X : Nat → Int32) (σ : Sp) : Option LSh := if y8 < y7 - y8 then f_L_shoots_J210 y6 y7 y9 1 0 G U E (upd (upd (upd T 0 (G 5)) 1 y6) 2 y7) X σ else f_L_shoots_J210 y6 y7 y9 0 0 G U E (upd (upd (upd T 0 (G 5)) 1 y6) 2 y7) X σ
theorem L_sh149 {G U E X : Nat → Int32} {σ : Sp} {y6 y7 y8 y9 : Int32} : ∀ (m fuel : Nat) (T : Nat → Int32), m ≤ 33 → m < fuel → ∃ T', f_L_shoots_L149 y6 y7 y8 y9 fuel (nI (m + 2)) G U E T X σ = LS1 y6 y7 y8 y9 G U E T' X σ ∧ (∀ k, 3 ≤ k → k ≤ m + 2 → T' k = T (k - 3)) ∧ ∀ k, (k < 3 ∨ m + 2 < k) → T' k = T k := by
  intro m
  induction m with
  | zero =>
    intro fuel T hm hf
    obtain ⟨fu, rfl⟩ : ∃ fu, fuel = fu + 1 := ⟨fuel - 1, by omega⟩
    refine ⟨T, ?_, fun k h1 h2 => absurd h2 (by omega), fun k _ => rfl⟩
    rw [f_L_shoots_L149, if_pos (by rw [fa_L]; exact nI_le (by omega) (by omega))]
    rfl
  | succ m ih =>
    intro fuel T hm hf
    obtain ⟨fu, rfl⟩ : ∃ fu, fuel = fu + 1 := ⟨fuel - 1, by omega⟩
    obtain ⟨T', a1, a2, a3⟩ := ih fu (upd T (m + 3) (T m)) (by omega) (by omega)
    refine ⟨T', ?_, ?_, ?_⟩
    · rw [f_L_shoots_L149, if_neg (by rw [fa_L]; exact nI_ge (by omega) (by omega)), fa_lit 3, show m + 1 + 2 = m + 3 by omega, pk_sub (by omega), show m + 3 - 3 = m by omega, gd_t (nI_in (by omega) (by decide)), v_cl (by omega)]
      simp only [lt_v]
      rw [gd_t (nI_in (by omega) (by decide)), v_cl (by omega), show m + 3 = m + 2 + 1 by omega, pk_m1, show m + 2 + 1 = m + 3 by omega, a1]
    · intro k h1 h2
      by_cases e : k = m + 3
      · subst e
        rw [a3 _ (Or.inr (by omega)), pk_us, Nat.add_sub_cancel]
      · rw [a2 k h1 (by omega), pk_un (by omega)]
    · intro k hk
      rw [a3 k (by omega), pk_un (by omega)]
end
section
/-! a shot of the law as a whole -/
theorem L_judge {v : Nat → Nat} {t b : Nat} {b0 b1 : Bu} {nr : Int32} {G U E T X : Nat → Int32} {σ : Sp} (hs : stE v G) (hv : stK v) (ht : t ≤ 30000) (hb : b < 2) (h0 : buE 0 b0 U) (h1 : buE 1 b1 U) (k0 : buK b0) (k1 : buK b1) (h6 : G 6 = nr) (hX : X 0 = nI b) :
    ∃ G' U', (if (G 8) < nI (aw t (v 0)) then f_L_shoots_J302 (nI t) (0 : Int32) G U E T X σ else f_L_shoots_J302 (nI t) (1 : Int32) G U E T X σ) = f_L_shoots_J345 (nI t) G' U' E T X σ ∧ buE 0 (if b = 0 then buJ v t b0 else b0) U' ∧ buE 1 (if b = 0 then b1 else buJ v t b1) U' ∧ G' 6 = nrJ v t nr ∧ ∀ i, i ≠ 6 → G' i = G i := by
  obtain ⟨s1, s2, s3, s4, s5, s6, s7, s8, s9⟩ := id hv
  have e8 : G 8 = nI (v 1) := hs 1 (by decide)
  have e12 : G 12 = nI (v 5) := hs 5 (by decide)
  have e7 : G 7 = nI (v 0) := hs 0 (by decide)
  have haw : aw t (v 0) ≤ 30000 := by unfold aw; split <;> omega
  rw [e8]
  by_cases c : aw t (v 0) ≤ v 1
  · refine ⟨upd G 6 (nr + 1), U, ?_, ?_, ?_, ?_, fun i hi => pk_un hi⟩
    · rw [if_neg (nI_nlt c (by omega)), f_L_shoots_J302, if_neg (by decide), f_L_shoots_J319, cN (n := 6) (by decide), h6, lt_v, gd_t (by decide), lt_v, if_neg (by decide)]
    · have : buJ v t b0 = b0 := by unfold buJ; rw [if_pos c]
      rw [this, ite_self]; exact h0
    · have : buJ v t b1 = b1 := by unfold buJ; rw [if_pos c]
      rw [this, ite_self]; exact h1
    · rw [pk_us]; unfold nrJ; rw [if_pos c]
  · have hn : nrJ v t nr = nr := by unfold nrJ; rw [if_neg c]
    have st : (if nI (v 1) < nI (aw t (v 0)) then f_L_shoots_J302 (nI t) (0 : Int32) G U E T X σ else f_L_shoots_J302 (nI t) (1 : Int32) G U E T X σ) = (if nI (v 5) = 1 then (f_L_correct (nI b) (nI t) (upd G 6 nr) U).bind fun q => f_L_shoots_J345 (nI t) (upd G 6 nr) q E T X σ else f_L_shoots_J345 (nI t) (upd G 6 nr) U E T X σ) := by
      rw [if_pos (nI_lt (by omega) (by omega)), f_L_shoots_J302, if_pos rfl, f_L_shoots_J319, cN (n := 6) (by decide), h6, Int32.add_zero, lt_v, gd_t (by decide), lt_v, if_pos rfl, cN (n := 12) (by decide), cN (n := 0) (by decide), pk_un (by decide), e12, hX]
    rw [st]
    by_cases c5 : v 5 = 1
    · have hx : buE b (bsel b0 b1 b) U := by
        unfold bsel
        rcases (show b = 0 ∨ b = 1 by omega) with rfl | rfl
        · rw [if_pos rfl]; exact h0
        · rw [if_neg (by decide)]; exact h1
      have hxk : buK (bsel b0 b1 b) := bsel_K b k0 k1
      have hc := L_correct (G := upd G 6 nr) hb hx hxk ((pk_un (by decide)).trans e7) ht s1 s2
      have hJ : ∀ x : Bu, buJ v t x = buX x t (v 0) := fun x => by unfold buJ; rw [if_neg c, if_pos c5]
      rw [if_pos (by rw [c5]; rfl), hc, Option.bind_some, hJ, hJ, hn]
      refine ⟨upd G 6 nr, _, rfl, ?_, ?_, pk_us, fun i hi => pk_un hi⟩
      · rcases (show b = 0 ∨ b = 1 by omega) with rfl | rfl
        · rw [if_pos rfl]
          refine ⟨?_, ?_, ?_, pk_us⟩
          · rw [pk_un (by decide), pk_us]; rfl
          · rw [pk_un (by decide), pk_un (by decide)]; exact h0.2.1
          · rw [pk_un (by decide), pk_un (by decide)]; exact h0.2.2.1
        · rw [if_neg (by decide)]
          refine ⟨?_, ?_, ?_, ?_⟩
          · rw [pk_un (by decide), pk_un (by decide)]; exact h0.1
          · rw [pk_un (by decide), pk_un (by decide)]; exact h0.2.1
          · rw [pk_un (by decide), pk_un (by decide)]; exact h0.2.2.1
          · rw [pk_un (by decide), pk_un (by decide)]; exact h0.2.2.2
      · rcases (show b = 0 ∨ b = 1 by omega) with rfl | rfl
        · rw [if_pos rfl]
          refine ⟨?_, ?_, ?_, ?_⟩
          · rw [pk_un (by decide), pk_un (by decide)]; exact h1.1
          · rw [pk_un (by decide), pk_un (by decide)]; exact h1.2.1
          · rw [pk_un (by decide), pk_un (by decide)]; exact h1.2.2.1
          · rw [pk_un (by decide), pk_un (by decide)]; exact h1.2.2.2
        · rw [if_neg (by decide)]
          refine ⟨?_, ?_, ?_, pk_us⟩
          · rw [pk_un (by decide), pk_us]; rfl
          · rw [pk_un (by decide), pk_un (by decide)]; exact h1.2.1
          · rw [pk_un (by decide), pk_un (by decide)]; exact h1.2.2.1
    · have hJ : ∀ x : Bu, buJ v t x = x := fun x => by unfold buJ; rw [if_neg c, if_neg c5]
      rw [if_neg (show ¬ nI (v 5) = 1 from fun q => c5 ((nI_eq (b := 1) (by omega) (by decide)).mp q)), hJ, hJ, ite_self, ite_self, hn]
      exact ⟨upd G 6 nr, U, rfl, h0, h1, pk_us, fun i hi => pk_un hi⟩
theorem L_shE {K : List Sh} {T X T1 X1 T2 X2 : Nat → Int32} {s : Sh} (hK : K.length ≤ 12) (h : shE K T X) (c2 : ∀ k, 3 ≤ k → k ≤ 35 → T1 k = T (k - 3)) (b2 : ∀ k, 4 ≤ k → k ≤ 47 → X1 k = X (k - 4)) (t0 : T2 0 = s.1) (t1 : T2 1 = nI s.2.1) (t2 : T2 2 = s.2.2.1) (tr : ∀ k, 3 ≤ k → T2 k = T1 k) (x0 : X2 0 = s.2.2.2.1) (x1 : X2 1 = s.2.2.2.2.1) (x2 : X2 2 = s.2.2.2.2.2.1) (x3 : X2 3 = s.2.2.2.2.2.2) (xr : ∀ k, 4 ≤ k → X2 k = X1 k) : shE ((s :: K).take 12) T2 X2 := by
  intro k hk
  have hk12 : k < 12 := by
    rw [List.length_take] at hk
    omega
  rw [sk0_t _ hk12]
  cases k with
  | zero => rw [sk0_0]; exact ⟨t0, t1, t2, x0, x1, x2, x3⟩
  | succ k =>
    rw [sk0_s]
    rw [List.length_take, List.length_cons] at hk
    obtain ⟨d1, d2, d3, d4, d5, d6, d7⟩ := h k (by omega)
    refine ⟨?_, ?_, ?_, ?_, ?_, ?_, ?_⟩
    · rw [tr _ (by omega), c2 _ (by omega) (by omega), ← d1]; congr 1
    · rw [tr _ (by omega), c2 _ (by omega) (by omega), ← d2]; congr 1
    · rw [tr _ (by omega), c2 _ (by omega) (by omega), ← d3]; congr 1
    · rw [xr _ (by omega), b2 _ (by omega) (by omega), ← d4]; congr 1
    · rw [xr _ (by omega), b2 _ (by omega) (by omega), ← d5]; congr 1
    · rw [xr _ (by omega), b2 _ (by omega) (by omega), ← d6]; congr 1
    · rw [xr _ (by omega), b2 _ (by omega) (by omega), ← d7]; congr 1
theorem tot_pos {L : List (Nat × Nat)} (h : okR L) (h0 : L.length ≠ 0) : 0 < tot L := by have := len_tot h; omega
theorem L_shoots {σ : Sp} {G U H C E T X : Nat → Int32} (hR : LR σ G U H C E T X) (hk : KK σ (v_se σ)) (hse : v_se σ < 2 ^ 26) (hK : (v_K σ).length ≤ 12) (hlen : (v_ba σ).length ≤ 63) :
    ∃ G' U' E' T' X' σ', f_L_shoots G U E T X σ = some (1, G', U', E', T', X', σ') ∧ LR σ' G' U' H C E' T' X' ∧ (σ' = σ ∨ (σ' = o_shot σ ∧ tot (v_ba σ) ≠ 0)) := by
  obtain ⟨m1, m2, m3, m4, m5, m6, m7, m8, m9, m10, m11, m12, m13, m14, m15⟩ := id hR
  obtain ⟨k1, k2, k3, k4, k5, k6, k7, k8, k9, k10, k11, k12, k13, k14⟩ := id hk
  have l2 := len_tot k8
  rw [f_L_shoots, cN (n := 0) (by decide), m5.1]
  by_cases c0 : (v_ba σ).length = 0
  · have ht : tot (v_ba σ) = 0 := by rw [List.length_eq_zero_iff.mp c0]; rfl
    have ha : a_shot (v_st σ) (v_ba σ) = cNP := by unfold a_shot; rw [if_pos ht]
    rw [if_pos (by rw [c0]; exact nI_0), Q_shot, QO, gd_t (by omega), ha, if_neg (by decide), Option.bind_some, if_pos rfl]
    exact ⟨G, U, E, T, X, σ, rfl, hR, Or.inl rfl⟩
  · have ht := tot_pos k8 c0
    have okE1 : okE (v_ba σ) := okE_of k8 k9 (by omega)
    have htm := timeS_le k13 (v_ba σ)
    have fB := fN_sum isB (v_ba σ)
    have fK := fN_sum isK (v_ba σ)
    have bB := mostly_lt isB (v_ba σ)
    have bK := mostly_lt isK (v_ba σ)
    have ha : a_shot (v_st σ) (v_ba σ) = nI (timeS (v_st σ) (v_ba σ)) := by unfold a_shot; rw [if_neg (by omega)]
    have hQ : Q_shot σ = some (nI (timeS (v_st σ) (v_ba σ)), o_shot σ) := by rw [Q_shot, QO, gd_t (by omega), ha, if_pos (nI_pos' (by omega))]
    rw [if_neg (nI_ne0 (by omega) (by omega)), L_brew m9 k13 m5 okE1 hlen k10 ht, Option.bind_some, L_amounts m5 okE1 hlen, Option.bind_some]
    generalize hgt : timeS (v_st σ) (v_ba σ) = t at *
    obtain ⟨X1, b1, b2, b3⟩ := L_sh121 (G := G) (U := U) (E := E) (T := T) (σ := σ) (y6 := nI t) (y7 := nI (tot (v_ba σ))) (y8 := nI (0 + fN isB (v_ba σ))) (y9 := nI (0 + fN isK (v_ba σ))) 44 FU X (Nat.le_refl _) (by show 44 < 20000; omega)
    obtain ⟨T1, c1, c2, c3⟩ := L_sh149 (G := G) (U := U) (E := E) (X := X1) (σ := σ) (y6 := nI t) (y7 := nI (tot (v_ba σ))) (y8 := nI (0 + fN isB (v_ba σ))) (y9 := nI (0 + fN isK (v_ba σ))) 33 FU T (Nat.le_refl _) (by show 33 < 20000; omega)
    have s1 : f_L_shoots_L43 (nI t) (nI (tot (v_ba σ))) FU (0 : Int32) (0 : Int32) (1 : Int32) G U E T X σ = LS1 (nI t) (nI (tot (v_ba σ))) (nI (fN isB (v_ba σ))) (nI (fN isK (v_ba σ))) G U E T1 X1 σ := by
      have h43 := L_sh43 (G := G) (U := U) (T := T) (X := X) (σ := σ) (y6 := nI t) (y7 := nI (tot (v_ba σ))) m5 okE1 hlen (v_ba σ).length 0 0 0 FU (v_ba σ) rfl (by omega) (fun k _ => by rw [Nat.zero_add]) (by show _ < 20000; omega)
      have e1 := (h43.trans b1).trans c1
      rw [Nat.zero_add (fN isB (v_ba σ)), Nat.zero_add (fN isK (v_ba σ))] at e1
      exact e1
    have s2 : LS1 (nI t) (nI (tot (v_ba σ))) (nI (fN isB (v_ba σ))) (nI (fN isK (v_ba σ))) G U E T1 X1 σ = f_L_shoots_J210 (nI t) (nI (tot (v_ba σ))) (nI (fN isK (v_ba σ))) (nI (mostly isB (v_ba σ))) 0 G U E (upd (upd (upd T1 0 (G 5)) 1 (nI t)) 2 (nI (tot (v_ba σ)))) X1 σ := by
      rw [LS1, pk_sub (by omega), mostly_fN isB]
      by_cases c : fN isB (v_ba σ) < tot (v_ba σ) - fN isB (v_ba σ)
      · rw [if_pos (nI_lt c (by omega)), if_pos c]; rfl
      · rw [if_neg (nI_nlt (by omega) (by omega)), if_neg c]; rfl
    generalize hT2 : upd (upd (upd T1 0 (G 5)) 1 (nI t)) 2 (nI (tot (v_ba σ))) = T2 at s2
    have s3 : f_L_shoots_J210 (nI t) (nI (tot (v_ba σ))) (nI (fN isK (v_ba σ))) (nI (mostly isB (v_ba σ))) 0 G U E T2 X1 σ = f_L_shoots_J229 (nI t) (nI (tot (v_ba σ))) (nI (mostly isK (v_ba σ))) 1 G U E T2 (upd X1 0 (nI (mostly isB (v_ba σ)))) σ := by
      rw [f_L_shoots_J210, gd_t (by decide), lt_v, cN (n := 0) (by decide), pk_sub (by omega), mostly_fN isK]
      by_cases c : fN isK (v_ba σ) < tot (v_ba σ) - fN isK (v_ba σ)
      · rw [if_pos (nI_lt c (by omega)), if_pos c]; rfl
      · rw [if_neg (nI_nlt (by omega) (by omega)), if_neg c]; rfl
    have s4 : f_L_shoots_J229 (nI t) (nI (tot (v_ba σ))) (nI (mostly isK (v_ba σ))) 1 G U E T2 (upd X1 0 (nI (mostly isB (v_ba σ)))) σ = f_L_shoots_J263 (nI t) (nI (tot (v_ba σ))) (nI (if 12 ≤ (v_K σ).length then 0 else 1)) (nI (v_K σ).length) 14 G U E T2 (upd (upd (upd (upd X1 0 (nI (mostly isB (v_ba σ)))) 1 (nI (mostly isK (v_ba σ)))) 2 (G 0)) 3 (E 0)) σ := by
      rw [f_L_shoots_J229, gd_t (by decide)]
      simp only [lt_v, cN (n := 0) (by decide), cN (n := 1) (by decide), cN (n := 2) (by decide), cN (n := 3) (by decide), cN (n := 14) (by decide)]
      rw [m7]
      by_cases c : 12 ≤ (v_K σ).length
      · rw [if_pos (show (12 : Int32) ≤ nI (v_K σ).length from nI_le (a := 12) c (by omega)), if_pos c]; rfl
      · rw [if_neg (show ¬ (12 : Int32) ≤ nI (v_K σ).length from nI_ge (b := 12) (by omega) (by decide)), if_neg c]; rfl
    generalize hX2 : upd (upd (upd (upd X1 0 (nI (mostly isB (v_ba σ)))) 1 (nI (mostly isK (v_ba σ)))) 2 (G 0)) 3 (E 0) = X2 at s4
    generalize hG3 : upd (upd (upd G 14 (nI (min 12 ((v_K σ).length + 1)))) 5 (v_mk σ + 1)) 3 (v_br σ + nI (tot (v_ba σ))) = G3
    have g3 : ∀ i, i ≠ 3 → i ≠ 5 → i ≠ 14 → G3 i = G i := fun i i3 i5 i14 => by rw [← hG3, pk_un i3, pk_un i5, pk_un i14]
    have hs3 : stE (v_st σ) G3 := fun k hk => (g3 _ (by omega) (by omega) (by omega)).trans (m9 k hk)
    have s5 : f_L_shoots_J263 (nI t) (nI (tot (v_ba σ))) (nI (if 12 ≤ (v_K σ).length then 0 else 1)) (nI (v_K σ).length) 14 G U E T2 X2 σ = (if (G3 8) < nI (aw t (v_st σ 0)) then f_L_shoots_J302 (nI t) (0 : Int32) G3 U (upd E 0 0) T2 X2 σ else f_L_shoots_J302 (nI t) (1 : Int32) G3 U (upd E 0 0) T2 X2 σ) := by
      have e14 : nI (v_K σ).length + nI (if 12 ≤ (v_K σ).length then 0 else 1) = nI (min 12 ((v_K σ).length + 1)) := by
        rw [nI_add]
        refine nI_inj ?_
        split <;> omega
      have u5 : upd G 14 (nI (min 12 ((v_K σ).length + 1))) 5 = v_mk σ := (pk_un (by decide)).trans m8
      have u3 : upd (upd G 14 (nI (min 12 ((v_K σ).length + 1)))) 5 (v_mk σ + 1) 3 = v_br σ := ((pk_un (by decide)).trans (pk_un (by decide))).trans m13
      rw [f_L_shoots_J263]
      simp only [lt_v]
      rw [gd_t (by decide)]
      simp only [cN (n := 0) (by decide), cN (n := 3) (by decide), cN (n := 5) (by decide), cN (n := 8) (by decide), cN (n := 14) (by decide)]
      rw [e14, u5, u3, hG3, L_away (hs3 0 (by decide)) (by omega) (by have := k13.2.1; omega), Option.bind_some]
    have hX0 : X2 0 = nI (mostly isB (v_ba σ)) := by rw [← hX2, pk_un (by decide), pk_un (by decide), pk_un (by decide), pk_us]
    obtain ⟨G4, U4, j1, j2, j3, j4, j5⟩ := L_judge (nr := v_nr σ) (E := upd E 0 0) (T := T2) (σ := σ) hs3 k13 htm bB m2 m3 k11 k12 ((g3 6 (by decide) (by decide) (by decide)).trans m15) hX0
    have w0 : (if mostly isB (v_ba σ) = 0 then buJ (v_st σ) t (v_b0 σ) else v_b0 σ).2.1 = (v_b0 σ).2.1 := by split; exact buJ_w _ _ _; rfl
    have w1 : (if mostly isB (v_ba σ) = 0 then v_b1 σ else buJ (v_st σ) t (v_b1 σ)).2.1 = (v_b1 σ).2.1 := by split; rfl; exact buJ_w _ _ _
    obtain ⟨G5, U5, p1, p2, p3, p4, p5, p6⟩ := L_pass (n := t / 10) (t := v_se σ) (by omega) ((j5 0 (by decide)).trans ((g3 0 (by decide) (by decide) (by decide)).trans m10)) (j2.2.1.trans (by rw [w0])) (j3.2.1.trans (by rw [w1])) (by omega) k11.2.2 k12.2.2
    have s6 : f_L_shoots_J345 (nI t) G4 U4 (upd E 0 0) T2 X2 σ = some (1, G5, U5, upd E 0 0, T2, X2, o_shot σ) := by
      rw [f_L_shoots_J345, fa_lit 10, pk_div (by omega) (by decide) (by decide), p1, Option.bind_some, hQ, Option.bind_some, if_pos rfl]
    refine ⟨G5, U5, upd E 0 0, T2, X2, o_shot σ, ?_, ?_, Or.inr ⟨rfl, by omega⟩⟩
    · rw [s1, s2, s3, s4, s5, j1, s6]
    · have gg : ∀ i, i ≠ 0 → i ≠ 6 → i ≠ 3 → i ≠ 5 → i ≠ 14 → G5 i = G i := fun i i0 i6 i3 i5 i14 => (p5 i i0).trans ((j5 i i6).trans (g3 i i3 i5 i14))
      have g3' : ∀ i, i ≠ 0 → i ≠ 6 → G5 i = G3 i := fun i i0 i6 => (p5 i i0).trans (j5 i i6)
      refine ⟨⟨(gg 13 (by decide) (by decide) (by decide) (by decide) (by decide)).trans m1.1, m1.2⟩, ?_, ?_, m4, ⟨pk_us, fun k hk => absurd hk (Nat.not_lt_zero k)⟩, ?_, ?_, ?_, fun k hk => (gg _ (by omega) (by omega) (by omega) (by omega) (by omega)).trans (m9 k hk), ?_, (gg 1 (by decide) (by decide) (by decide) (by decide) (by decide)).trans m11, (gg 2 (by decide) (by decide) (by decide) (by decide) (by decide)).trans m12, ?_, (gg 4 (by decide) (by decide) (by decide) (by decide) (by decide)).trans m14, ?_⟩
      · show buE 0 (bs0 (v_st σ) (timeS (v_st σ) (v_ba σ)) (mostly isB (v_ba σ)) (tmz (v_se σ) (timeS (v_st σ) (v_ba σ) / 10)) (v_b0 σ)) U5
        rw [hgt]
        unfold bs0 buC
        exact ⟨(p6 0 (by decide) (by decide)).trans j2.1, (by rw [w0]; exact p3), (p6 2 (by decide) (by decide)).trans j2.2.2.1, (p6 3 (by decide) (by decide)).trans j2.2.2.2⟩
      · show buE 1 (bs1 (v_st σ) (timeS (v_st σ) (v_ba σ)) (mostly isB (v_ba σ)) (tmz (v_se σ) (timeS (v_st σ) (v_ba σ) / 10)) (v_b1 σ)) U5
        rw [hgt]
        unfold bs1 buC
        exact ⟨(p6 4 (by decide) (by decide)).trans j3.1, (by rw [w1]; exact p4), (p6 6 (by decide) (by decide)).trans j3.2.2.1, (p6 7 (by decide) (by decide)).trans j3.2.2.2⟩
      · refine L_shE hK m6 (fun k h1 h2 => c2 k h1 (by omega)) (fun k h1 h2 => b2 k h1 (by omega)) ?_ ?_ ?_ ?_ ?_ ?_ ?_ ?_ ?_
        · rw [← hT2, pk_un (by decide), pk_un (by decide), pk_us]; exact m8
        · rw [← hT2, pk_un (by decide), pk_us]; exact congrArg nI hgt.symm
        · rw [← hT2, pk_us]; rfl
        · intro k hk3; rw [← hT2, pk_un (by omega), pk_un (by omega), pk_un (by omega)]
        · exact hX0
        · rw [← hX2, pk_un (by decide), pk_un (by decide), pk_us]; rfl
        · rw [← hX2, pk_un (by decide), pk_us]; exact m10
        · rw [← hX2, pk_us]; exact m5.1
        · intro k hk4; rw [← hX2, pk_un (by omega), pk_un (by omega), pk_un (by omega), pk_un (by omega)]
      · rw [g3' 14 (by decide) (by decide), ← hG3, pk_un (by decide), pk_un (by decide), pk_us]
        refine nI_inj ?_
        show _ = ((shotN (v_st σ) (v_ba σ) (v_mk σ) (v_se σ) :: v_K σ).take 12).length
        rw [List.length_take, List.length_cons]
      · rw [g3' 5 (by decide) (by decide), ← hG3, pk_un (by decide), pk_us]; rfl
      · rw [p2]
        show nI (v_se σ + t / 10) = nI (v_se σ + timeS (v_st σ) (v_ba σ) / 10)
        rw [hgt]
      · rw [g3' 3 (by decide) (by decide), ← hG3, pk_us]; rfl
      · rw [p5 6 (by decide), j4]
        show nrJ (v_st σ) t (v_nr σ) = nrJ (v_st σ) (timeS (v_st σ) (v_ba σ)) (v_nr σ)
        rw [hgt]
end
section
/-! what the law does at a turn -/
/-- what is told once: all that was filled in is somewhere -/
def CS (σ : Sp) : Prop := v_gr σ = v_br σ + v_pu σ + nI (tot (v_ch σ)) + nI (tot (v_ba σ)) ∧ v_fi σ = v_gr σ + nI (tot (v_lo σ)) ∧ (v_b0 σ).2.2.1 + (v_b1 σ).2.2.1 = v_gr σ
def PI (σ : Sp) (n : Nat) : Prop := KK σ (v_se σ) ∧ CS σ ∧ (v_ch σ).length + (v_ba σ).length ≤ n ∧ (v_K σ).length ≤ 12 ∧ ∀ k : Nat, k < (v_K σ).length → (sk0 (v_K σ) k).2.1 ≤ 30000
theorem csA {x y : Int32} {p q p' q' a : Nat} (h : x = y + nI p + nI q) (e : p' + q' = p + q + a) : x + nI a = y + nI p' + nI q' := by
  rw [h, Int32.add_assoc y, nI_add, Int32.add_assoc y (nI p'), nI_add, e, Int32.add_assoc, nI_add]
theorem csB {x y : Int32} {p p' a : Nat} (h : x = y + nI p) (e : p = p' + a) : x = y + nI a + nI p' := by
  rw [h, e, Int32.add_assoc, nI_add, Nat.add_comm]
theorem tk_len2 : ∀ (L : List (Nat × Nat)) (l : Nat), (tk l L).1.length + (tk l L).2.length ≤ L.length + 1
  | [], l => by simp [tk]
  | p :: L, l => by
    rw [tk]
    split
    · simp only [List.length_cons, List.length_nil]; omega
    · split
      · simp only [List.length_cons, List.length_nil]; omega
      · have h := tk_len2 L (l - p.1)
        simp only [List.length_cons]
        omega
theorem CS_fill {σ : Sp} {k a : Nat} (h : CS σ) : CS (o_fill k a σ) := by
  obtain ⟨h1, h2, h3⟩ := h
  refine ⟨h1, ?_, h3⟩
  show v_fi σ + nI a = v_gr σ + nI (tot (pour k a (v_lo σ)))
  rw [pour_tot, h2, Int32.add_assoc, nI_add]
theorem CS_grind {σ : Sp} {b a : Nat} (h : CS σ) (hl : a ≤ tot (v_lo σ)) : CS (o_grind b a σ) := by
  obtain ⟨h1, h2, h3⟩ := h
  have t1 := g_in_tot (ch := v_ch σ) (d := (bsel (v_b0 σ) (v_b1 σ) b).1) (w := (bsel (v_b0 σ) (v_b1 σ) b).2.1) (b := b) hl
  have t2 := tk_tot (g_in (v_lo σ) (v_ch σ) (bsel (v_b0 σ) (v_b1 σ) b).1 (bsel (v_b0 σ) (v_b1 σ) b).2.1 b a) (g_out (v_ch σ) a (v_st σ 2))
  have t3 := tk_tot (v_lo σ) a
  have t4 : g_out (v_ch σ) a (v_st σ 2) = tot (v_ch σ) + a - v_st σ 2 := rfl
  refine ⟨csA h1 ?_, csB h2 ?_, ?_⟩
  · show tot (tk _ _).2 + tot (v_ba σ ++ (tk _ _).1) = _
    rw [tot_app, t2.1, t2.2, t1]
    omega
  · show tot (v_lo σ) = tot (tk a (v_lo σ)).2 + a
    rw [t3.2]
    omega
  · show (bg0 (v_b0 σ) b a _).2.2.1 + (bg1 (v_b1 σ) b a _).2.2.1 = v_gr σ + nI a
    unfold bg0 bg1 buC buG
    by_cases c : b = 0
    · rw [if_pos c, if_pos c, ← h3]
      show (v_b0 σ).2.2.1 + nI a + (v_b1 σ).2.2.1 = _
      ac_rfl
    · rw [if_neg c, if_neg c, ← h3]
      show (v_b0 σ).2.2.1 + ((v_b1 σ).2.2.1 + nI a) = _
      ac_rfl
theorem CS_shot {σ : Sp} (h : CS σ) : CS (o_shot σ) := by
  obtain ⟨h1, h2, h3⟩ := h
  refine ⟨?_, h2, ?_⟩
  · show v_gr σ = v_br σ + nI (tot (v_ba σ)) + v_pu σ + nI (tot (v_ch σ)) + nI 0
    rw [nI_0, Int32.add_zero, h1]
    ac_rfl
  · show (bs0 (v_st σ) _ _ _ (v_b0 σ)).2.2.1 + (bs1 (v_st σ) _ _ _ (v_b1 σ)).2.2.1 = v_gr σ
    unfold bs0 bs1 buC
    rw [← h3]
    by_cases c : mostly isB (v_ba σ) = 0
    · rw [if_pos c, if_pos c]
      show (buJ _ _ (v_b0 σ)).2.2.1 + (v_b1 σ).2.2.1 = _
      rw [buJ_g]
    · rw [if_neg c, if_neg c]
      show (v_b0 σ).2.2.1 + (buJ _ _ (v_b1 σ)).2.2.1 = _
      rw [buJ_g]
theorem CS_purge {σ : Sp} (h : CS σ) : CS (o_purge σ) := by
  obtain ⟨h1, h2, h3⟩ := h
  refine ⟨?_, h2, h3⟩
  show v_gr σ = v_br σ + (v_pu σ + nI (tot (v_ch σ))) + nI 0 + nI (tot (v_ba σ))
  rw [nI_0, Int32.add_zero, h1]
  ac_rfl
theorem CS_dial {σ : Sp} {b d : Nat} (h : CS σ) : CS (o_dial b d σ) := by
  obtain ⟨h1, h2, h3⟩ := h
  refine ⟨h1, h2, ?_⟩
  show (if b = 0 then (d, (v_b0 σ).2) else v_b0 σ).2.2.1 + (if b = 0 then v_b1 σ else (d, (v_b1 σ).2)).2.2.1 = v_gr σ
  by_cases c : b = 0
  · rw [if_pos c, if_pos c]; exact h3
  · rw [if_neg c, if_neg c]; exact h3
theorem CS_corr {σ : Sp} {b : Nat} (h : CS σ) : CS (o_corr b σ) := by
  obtain ⟨h1, h2, h3⟩ := h
  refine ⟨h1, h2, ?_⟩
  show (if b = 0 then buX (v_b0 σ) (sk0 (v_K σ) 0).2.1 (v_st σ 0) else v_b0 σ).2.2.1 + (if b = 0 then v_b1 σ else buX (v_b1 σ) (sk0 (v_K σ) 0).2.1 (v_st σ 0)).2.2.1 = v_gr σ
  by_cases c : b = 0
  · rw [if_pos c, if_pos c]; exact h3
  · rw [if_neg c, if_neg c]; exact h3
/-! the answers at good arguments -/
theorem nx_n {n : Nat} (h : n < 2 ^ 31) : nx (nI n) = n := v_cl h
theorem af_full {k a : Nat} {L : List (Nat × Nat)} (hk : k < 2) (ha : 1 ≤ a) (ha2 : a ≤ 999) (h : full k a L) : a_fill (nI k) (nI a) L = cLR := by
  unfold a_fill
  rw [if_neg (good2 hk ha ha2 (by decide)), v_cl (by omega), v_cl (by omega), if_pos h]
theorem af_ok {k a : Nat} {L : List (Nat × Nat)} (hk : k < 2) (ha : 1 ≤ a) (ha2 : a ≤ 999) (h : ¬ full k a L) : a_fill (nI k) (nI a) L = nI (tot L + a) := by
  unfold a_fill
  rw [if_neg (good2 hk ha ha2 (by decide)), v_cl (by omega), v_cl (by omega), if_neg h]
theorem ad_ok {b d : Nat} {b0 b1 : Bu} (hb : b < 2) (hd : 1 ≤ d) (hd2 : d ≤ 60) : a_dial (nI b) (nI d) b0 b1 = nI (bsel b0 b1 b).1 := by
  unfold a_dial
  rw [if_neg (good2 hb hd hd2 (by decide)), v_cl (by omega)]
theorem ar_ok {n w0 w1 s : Nat} (hn : 1 ≤ n) (hn2 : n ≤ 999) : a_rest (nI n) w0 w1 s = nI (w0 + w1 - cl (tmz s n) w0 - cl (tmz s n) w1) := by
  unfold a_rest
  rw [if_neg (fun q => ?_), v_cl (by omega)]
  rcases q with q | q
  · exact nI_nlt (a := n) (b := 1) hn (by omega) q
  · exact nI_nlt (a := 999) (b := n) hn2 (by decide) q
theorem ac_ok {b g : Nat} {K : List Sh} {b0 b1 : Bu} (hb : b < 2) : a_corr (nI b) K b0 b1 g = if K.length = 0 then cNP else nI (cor (bsel b0 b1 b).1 (sk0 K 0).2.1 g) := by
  unfold a_corr
  have h : nI b = 0 ∨ nI b = 1 := by
    rcases (show b = 0 ∨ b = 1 by omega) with rfl | rfl
    · exact Or.inl nI_0
    · exact Or.inr rfl
  rw [if_neg (fun q => q h), nx_n (by omega)]
theorem as_ok {i a : Nat} {v : Nat → Nat} (hi : i < 6) (h1 : lsN i ≤ a) (h2 : a ≤ msN i) : a_set (nI i) (nI a) v = nI (v i) := by
  have hm := msN_le i
  have hl := lsN_le i
  unfold a_set
  rw [nx_n (by omega), if_neg (fun q => ?_), if_neg (fun q => ?_)]
  · rcases q with q | q
    · exact nI_nlt h1 (by omega) q
    · exact nI_nlt h2 (by omega) q
  · rcases q with q | q
    · exact nI_pos (by omega) q
    · omega
abbrev LAc : Type := Int32 × (Nat → Int32) × (Nat → Int32) × (Nat → Int32) × (Nat → Int32) × (Nat → Int32) × (Nat → Int32) × (Nat → Int32) × Sp
/-- a turn went well: the answer is 1, the arrays hold the new state -/
def OK (σ : Sp) (r : Option LAc) : Prop := ∃ G U H C E T X σ', r = some (1, G, U, H, C, E, T, X, σ') ∧ LR σ' G U H C E T X ∧ PI σ' 53 ∧ v_se σ' ≤ v_se σ + 3000
theorem PI.up {σ : Sp} {n m : Nat} (h : PI σ n) (hn : n ≤ m) : PI σ m := ⟨h.1, h.2.1, Nat.le_trans h.2.2.1 hn, h.2.2.2⟩
theorem QO_t {a : Int32} {σ σ' : Sp} (hs : v_se σ < 2 ^ 26) (h : 0 ≤ a) : QO a σ' σ = some (a, σ') := by rw [QO, gd_t (by omega), if_pos h]
theorem QO_f {a : Int32} {σ σ' : Sp} (hs : v_se σ < 2 ^ 26) (h : ¬ 0 ≤ a) : QO a σ' σ = some (a, σ) := by rw [QO, gd_t (by omega), if_neg h]
section LA
variable {σ : Sp} {G U H C E T X : Nat → Int32} {n : Nat}
theorem PI_shot (hP : PI σ n) (hb : tot (v_ba σ) ≠ 0) (hn : n ≤ 53 ∨ (v_ch σ).length ≤ 53) : PI (o_shot σ) 53 ∧ v_se (o_shot σ) ≤ v_se σ + 3000 := by
  obtain ⟨h1, h2, h3, h4, h5⟩ := hP
  have htm := timeS_le h1.2.2.2.2.2.2.2.2.2.2.2.2.1 (v_ba σ)
  refine ⟨⟨KK_self (K_shot h1), CS_shot h2, ?_, ?_, ?_⟩, ?_⟩
  · show (v_ch σ).length + 0 ≤ 53
    omega
  · show ((shotN (v_st σ) (v_ba σ) (v_mk σ) (v_se σ) :: v_K σ).take 12).length ≤ 12
    rw [List.length_take]
    omega
  · intro k hk
    have hk2 : k < ((shotN (v_st σ) (v_ba σ) (v_mk σ) (v_se σ) :: v_K σ).take 12).length := hk
    rw [List.length_take, List.length_cons] at hk2
    show (sk0 ((shotN (v_st σ) (v_ba σ) (v_mk σ) (v_se σ) :: v_K σ).take 12) k).2.1 ≤ 30000
    rw [sk0_t _ (by omega)]
    cases k with
    | zero => rw [sk0_0]; exact htm
    | succ k => rw [sk0_s]; exact h5 k (by omega)
  · show v_se σ + timeS (v_st σ) (v_ba σ) / 10 ≤ v_se σ + 3000
    omega
theorem A_shoots (hR : LR σ G U H C E T X) (hP : PI σ 53) (hs : v_se σ < 2 ^ 26) : ∃ G' U' E' T' X' σ', f_L_shoots G U E T X σ = some (1, G', U', E', T', X', σ') ∧ LR σ' G' U' H C E' T' X' ∧ PI σ' 53 ∧ v_se σ' ≤ v_se σ + 3000 := by
  obtain ⟨G', U', E', T', X', σ', a1, a2, a3⟩ := L_shoots hR hP.1 hs hP.2.2.2.1 (by have := hP.2.2.1; omega)
  refine ⟨G', U', E', T', X', σ', a1, a2, ?_⟩
  rcases a3 with rfl | ⟨rfl, hb⟩
  · exact ⟨hP, by omega⟩
  · exact PI_shot hP hb (Or.inl (Nat.le_refl _))
theorem A_purges (hR : LR σ G U H C E T X) (hP : PI σ 53) (hs : v_se σ < 2 ^ 26) : ∃ G' C' σ', f_L_purges G C σ = some (1, G', C', σ') ∧ LR σ' G' U H C' E T X ∧ PI σ' 53 ∧ v_se σ' ≤ v_se σ + 3000 := by
  obtain ⟨m1, m2, m3, m4, m5, m6, m7, m8, m9, m10, m11, m12, m13, m14, m15⟩ := hR
  obtain ⟨hk, hc, hl, hK, hT⟩ := hP
  obtain ⟨k1, k2, k3, k4, k5, k6, k7, k8, k9, k10, k11, k12, k13, k14⟩ := id hk
  have okC : okE (v_ch σ) := okE_of k5 k6 (by omega)
  have hQ : Q_purge σ = some (nI (tot (v_ch σ)), o_purge σ) := QO_t hs (nI_pos' (by omega))
  refine ⟨upd G 4 (v_pu σ + nI (tot (v_ch σ))), upd C 0 0, o_purge σ, ?_, ?_, ⟨KK_self (K_purge hk), CS_purge hc, ?_, hK, hT⟩, ?_⟩
  · rw [f_L_purges, L_amounts m4 okC (by omega), Option.bind_some]
    simp only [lt_v, cN (n := 0) (by decide), cN (n := 4) (by decide)]
    rw [m14, hQ, Option.bind_some, if_pos rfl]
  · refine ⟨⟨(pk_un (by decide)).trans m1.1, m1.2⟩, m2, m3, ⟨pk_us, fun k hk => absurd hk (Nat.not_lt_zero k)⟩, m5, m6, (pk_un (by decide)).trans m7, (pk_un (by decide)).trans m8, fun k hk => (pk_un (by omega)).trans (m9 k hk), (pk_un (by decide)).trans m10, (pk_un (by decide)).trans m11, (pk_un (by decide)).trans m12, (pk_un (by decide)).trans m13, pk_us, (pk_un (by decide)).trans m15⟩
  · show 0 + (v_ba σ).length ≤ 53
    omega
  · show v_se σ ≤ v_se σ + 3000
    omega
/-- the hopper's rows behind a filling -/
theorem loE_app {L : List (Nat × Nat)} {k a : Nat} (h : loE L G H) : loE (L ++ [(a, k)]) (upd G 13 (nI (L.length + 1))) (upd (upd H (2 * L.length) (nI k)) (2 * L.length + 1) (nI a)) := by
  refine ⟨by rw [pk_us, List.length_append]; rfl, fun j hj => ?_⟩
  rw [List.length_append, List.length_singleton] at hj
  by_cases e : j = L.length
  · subst e
    have := lk_r (L := L) (K := [(a, k)]) (k := 0)
    rw [Nat.add_zero, lk_0] at this
    rw [this, pk_us, pk_un (by omega), pk_us]
    exact ⟨rfl, rfl⟩
  · rw [lk_l (by omega), pk_un (by omega), pk_un (by omega), pk_un (by omega), pk_un (by omega)]
    exact h.2 j (by omega)
theorem loE_last {L : List (Nat × Nat)} {x : Nat × Nat} {a : Nat} (h : loE (L ++ [x]) G H) : loE (L ++ [(x.1 + a, x.2)]) G (upd H (2 * L.length + 1) (nI (x.1 + a))) := by
  refine ⟨by rw [h.1, List.length_append, List.length_append]; rfl, fun j hj => ?_⟩
  rw [List.length_append, List.length_singleton] at hj
  have hj2 := h.2 j (by rw [List.length_append, List.length_singleton]; exact hj)
  by_cases e : j = L.length
  · subst e
    have e1 := lk_r (L := L) (K := [(x.1 + a, x.2)]) (k := 0)
    have e2 := lk_r (L := L) (K := [x]) (k := 0)
    rw [Nat.add_zero, lk_0] at e1 e2
    rw [e2] at hj2
    rw [e1, pk_us, pk_un (by omega)]
    exact ⟨hj2.1, rfl⟩
  · rw [lk_l (by omega)] at hj2 ⊢
    rw [pk_un (by omega), pk_un (by omega)]
    exact hj2
theorem A_235 {k a : Nat} (hR : LR σ G U H C E T X) (hP : PI σ 53) (hs : v_se σ < 2 ^ 26) (hk2 : k < 2) (ha : 1 ≤ a) (ha2 : a ≤ 999) (hf : ¬ full k a (v_lo σ)) {G1 H1 : Nat → Int32} (hlo : loE (pour k a (v_lo σ)) G1 H1) (hG : ∀ i, i ≠ 13 → G1 i = G i) : OK σ (f_L_acts_J235 (nI k) (nI a) G1 U H1 C E T X σ) := by
  obtain ⟨m1, m2, m3, m4, m5, m6, m7, m8, m9, m10, m11, m12, m13, m14, m15⟩ := hR
  obtain ⟨hk, hc, hl, hK, hT⟩ := hP
  have hq : a_fill (nI k) (nI a) (v_lo σ) = nI (tot (v_lo σ) + a) := af_ok hk2 ha ha2 hf
  have k3 := hk.2.2.1
  have h0 : 0 ≤ a_fill (nI k) (nI a) (v_lo σ) := by rw [hq]; exact nI_pos' (by omega)
  have hKK : KK (o_fill k a σ) (v_se σ) := by
    have := K_fill hk h0
    rw [nx_n (by omega), nx_n (by omega)] at this
    exact this
  have hQ : Q_fill (nI k) (nI a) σ = some (nI (tot (v_lo σ) + a), o_fill k a σ) := by
    rw [Q_fill, QO_t hs h0, hq, nx_n (by omega), nx_n (by omega)]
  have hlo2 : loE (pour k a (v_lo σ)) (upd G1 1 (v_fi σ + nI a)) H1 := ⟨(pk_un (by decide)).trans hlo.1, hlo.2⟩
  have e1 : G1 1 = v_fi σ := (hG 1 (by decide)).trans m11
  refine ⟨upd G1 1 (v_fi σ + nI a), U, H1, C, E, T, X, o_fill k a σ, ?_, ?_, ⟨hKK, CS_fill hc, hl, hK, hT⟩, ?_⟩
  · rw [f_L_acts_J235, cN (n := 1) (by decide), e1]
    simp only [lt_v]
    rw [hQ, Option.bind_some, L_hopper hlo2 hKK.2.2.2.1, Option.bind_some, pour_tot, if_pos rfl]
  · have gg : ∀ i, i ≠ 1 → i ≠ 13 → upd G1 1 (v_fi σ + nI a) i = G i := fun i i1 i13 => (pk_un i1).trans (hG i i13)
    exact ⟨hlo2, m2, m3, m4, m5, m6, (gg 14 (by decide) (by decide)).trans m7, (gg 5 (by decide) (by decide)).trans m8, fun k hk => (gg _ (by omega) (by omega)).trans (m9 k hk), (gg 0 (by decide) (by decide)).trans m10, pk_us, (gg 2 (by decide) (by decide)).trans m12, (gg 3 (by decide) (by decide)).trans m13, (gg 4 (by decide) (by decide)).trans m14, (gg 6 (by decide) (by decide)).trans m15⟩
  · show v_se σ ≤ v_se σ + 3000
    omega
theorem A_133 {k a : Nat} (hR : LR σ G U H C E T X) (hP : PI σ 53) (hs : v_se σ < 2 ^ 26) (hk2 : k < 2) (ha : 1 ≤ a) (ha2 : a ≤ 999) : OK σ (f_L_acts_J133 (nI k) (nI a) (if ends k (v_lo σ) then 1 else 0) G U H C E T X σ) := by
  have m1 := hR.1
  have k3 := hP.1.2.2.1
  have k4 := hP.1.2.2.2.1
  have h163 : full k a (v_lo σ) → OK σ (f_L_acts_J163 (nI k) (nI a) G U H C E T X σ) := fun hf => by
    have hq : a_fill (nI k) (nI a) (v_lo σ) = cLR := af_full hk2 ha ha2 hf
    refine ⟨G, U, H, C, E, T, X, σ, ?_, hR, hP, by omega⟩
    rw [f_L_acts_J163, Q_fill, hq, QO_f hs (by decide), Option.bind_some, if_pos rfl]
  have i0 : (2 : Int32) * nI (v_lo σ).length = nI (2 * (v_lo σ).length) := by rw [fa_lit 2, pk_mul]
  have h149 : ¬ (ends k (v_lo σ) = false ∧ (v_lo σ).length = 6) → OK σ (f_L_acts_J149 (nI k) (nI a) (if ends k (v_lo σ) then 1 else 0) G U H C E T X σ) := fun hn => by
    rw [f_L_acts_J149, L_hopper m1 k4, Option.bind_some, nI_add, fa_lit 4000]
    by_cases c : tot (v_lo σ) + a ≤ 4000
    · have hf : ¬ full k a (v_lo σ) := fun q => by
        rcases q with q | ⟨q1, q2⟩
        · omega
        · exact hn ⟨q2, by omega⟩
      rw [if_pos (nI_le c (by decide))]
      by_cases ce : ends k (v_lo σ) = true
      · have hne : v_lo σ ≠ [] := fun q => by rw [q] at ce; cases ce
        obtain ⟨L, x, hL⟩ := snoc_of (v_lo σ) hne
        have hx : x.2 = k := by
          rw [hL, ends_app] at ce
          exact eq_of_beq ce
        have hlen : (v_lo σ).length = L.length + 1 := by rw [hL, List.length_append]; rfl
        have hp : pour k a (v_lo σ) = L ++ [(x.1 + a, x.2)] := by
          unfold pour
          rw [if_pos ce, hL, List.dropLast_concat, hx]
          congr 3
          simp
        have hm1 : loE (L ++ [x]) G H := hL ▸ m1
        have hv : H (2 * L.length + 1) = nI x.1 := by
          have e2 := lk_r (L := L) (K := [x]) (k := 0)
          rw [Nat.add_zero, lk_0] at e2
          have := (hm1.2 L.length (by rw [List.length_append]; simp)).2
          rw [e2] at this
          exact this
        have ei : nI (2 * (v_lo σ).length) - (1 : Int32) = nI (2 * L.length + 1) := by
          rw [fa_lit 1, pk_sub (by omega)]
          exact nI_inj (by omega)
        have gi : ¬ (nI (2 * L.length + 1) < 0 ∨ 12 ≤ (nI (2 * L.length + 1)).toNatClampNeg) := nI_in (by omega) (by decide)
        rw [if_pos ce, if_neg n10, cN (n := 13) (by decide), m1.1, i0, ei]
        simp only [lt_v]
        rw [gd_t gi, gd_t gi, v_cl (by omega), hv, nI_add]
        exact A_235 hR hP hs hk2 ha ha2 hf (by rw [hp]; exact loE_last hm1) (fun i _ => rfl)
      · have hlen : (v_lo σ).length < 6 := Nat.lt_of_le_of_ne k4 (fun q => hn ⟨Bool.eq_false_iff.mpr ce, q⟩)
        have hp : pour k a (v_lo σ) = v_lo σ ++ [(a, k)] := by unfold pour; rw [if_neg ce]
        have g0 : ¬ (nI (2 * (v_lo σ).length) < 0 ∨ 12 ≤ (nI (2 * (v_lo σ).length)).toNatClampNeg) := nI_in (by omega) (by decide)
        have g1 : ¬ (nI (2 * (v_lo σ).length + 1) < 0 ∨ 12 ≤ (nI (2 * (v_lo σ).length + 1)).toNatClampNeg) := nI_in (by omega) (by decide)
        rw [if_neg ce, if_pos rfl]
        simp only [lt_v]
        rw [cN (n := 13) (by decide), m1.1, i0, nI_1, nI_1, gd_t g0, gd_t g1, v_cl (by omega), v_cl (by omega)]
        exact A_235 hR hP hs hk2 ha ha2 hf (by rw [hp]; exact loE_app m1) (fun i hi => pk_un hi)
    · rw [if_neg (nI_ge (by omega) (by omega))]
      exact h163 (Or.inl (by omega))
  rw [f_L_acts_J133]
  by_cases ce : ends k (v_lo σ) = true
  · have h := h149 (fun q => by rw [ce] at q; cases q.1)
    rw [if_pos ce] at h ⊢
    rw [if_neg n10]
    exact h
  · have cf : ends k (v_lo σ) = false := Bool.eq_false_iff.mpr ce
    rw [if_neg ce, if_pos rfl, cN (n := 13) (by decide), m1.1]
    by_cases c6 : (v_lo σ).length = 6
    · rw [if_pos (by rw [c6]; rfl)]
      exact h163 (Or.inr ⟨by omega, cf⟩)
    · have h := h149 (fun q => c6 q.2)
      rw [if_neg ce] at h
      rw [if_neg (show ¬ nI (v_lo σ).length = (6 : Int32) from fun q => c6 ((nI_eq (b := 6) (by omega) (by decide)).mp q))]
      exact h
theorem A_102 {k y m : Nat} (hR : LR σ G U H C E T X) (hP : PI σ 53) (hs : v_se σ < 2 ^ 26) (hk2 : k < 2) (hy : y < 2 ^ 30) (hm : 0 < m) (hm2 : m ≤ 999) : OK σ (f_L_acts_J102 (nI k) (nI m) (nI y) 1 G U H C E T X σ) := by
  have m1 := hR.1
  have k4 := hP.1.2.2.2.1
  have hy2 := Nat.mod_lt y hm
  have h133 := A_133 (k := k) (a := 1 + y % m) hR hP hs hk2 (by omega) (by omega)
  have i0 : (2 : Int32) * nI (v_lo σ).length = nI (2 * (v_lo σ).length) := by rw [fa_lit 2, pk_mul]
  rw [f_L_acts_J102, gd_t (nI_ne0 hm (by omega)), pk_rem (by omega) hm (by omega), fa_lit 1, nI_add, lt_v, cN (n := 13) (by decide), m1.1, i0]
  by_cases c0 : (v_lo σ).length = 0
  · have he : v_lo σ = [] := List.length_eq_zero_iff.mp c0
    rw [if_pos (by rw [c0, nI_0]; exact Int32.le_refl 0), f_L_acts_J132]
    rw [he] at h133
    exact h133
  · have ei : nI (2 * (v_lo σ).length) - (2 : Int32) = nI (2 * ((v_lo σ).length - 1)) := by
      rw [fa_lit 2, pk_sub (by omega)]
      exact nI_inj (by omega)
    have hv := (m1.2 ((v_lo σ).length - 1) (by omega)).1
    have hne : v_lo σ ≠ [] := fun q => c0 (by rw [q]; rfl)
    have hlk : ends k (v_lo σ) = ((lk (v_lo σ) ((v_lo σ).length - 1)).2 == k) := by
      obtain ⟨L, x, hL⟩ := snoc_of (v_lo σ) hne
      have e2 := lk_r (L := L) (K := [x]) (k := 0)
      rw [Nat.add_zero, lk_0] at e2
      rw [hL, ends_app, List.length_append, List.length_singleton, Nat.add_sub_cancel, e2]
    have hx2 := hP.1.2.1 _ (lk_m (L := v_lo σ) (k := (v_lo σ).length - 1) (by omega))
    rw [if_neg (nI_nle (by omega) (by omega)), ei, gd_t (nI_in (by omega) (by decide)), v_cl (by omega), hv]
    by_cases c : (lk (v_lo σ) ((v_lo σ).length - 1)).2 = k
    · rw [hlk, c, beq_self_eq_true, if_pos rfl] at h133
      rw [if_pos (by rw [c])]
      exact h133
    · rw [hlk, beq_eq_false_iff_ne.mpr c, if_neg (by decide)] at h133
      rw [if_neg (fun q => c ((nI_eq (by omega) (by omega)).mp q)), f_L_acts_J132]
      exact h133
end LA
end
section
/-! a turn of the law as a whole -/
theorem one_add (n : Nat) : (1 : Int32) + nI n = nI (1 + n) := nI_add 1 n
section LA2
variable {σ : Sp} {G U H C E T X : Nat → Int32} {n : Nat}
theorem A_299 {b y m : Nat} (hR : LR σ G U H C E T X) (hP : PI σ 46) (hs : v_se σ < 2 ^ 26) (hb : b < 2) (hy : y < 2 ^ 30) (hm : 0 < m) (hm2 : m ≤ 400) : OK σ (f_L_acts_J299 (nI b) (nI m) (nI y) 1 G U H C E T X σ) := by
  obtain ⟨m1, m2, m3, m4, m5, m6, m7, m8, m9, m10, m11, m12, m13, m14, m15⟩ := id hR
  obtain ⟨hk, hc, hl, hK, hT⟩ := id hP
  obtain ⟨k1, k2, k3, k4, k5, k6, k7, k8, k9, k10, k11, k12, k13, k14⟩ := id hk
  have okC : okE (v_ch σ) := okE_of k5 k6 (by omega)
  have okB : okE (v_ba σ) := okE_of k8 k9 (by omega)
  have hy2 := Nat.mod_lt y hm
  generalize ha : 1 + y % m = a
  have ha1 : 1 ≤ a := by omega
  have ha2 : a ≤ 400 := by omega
  have hcan : f_L_can (nI a) G H C E = some (a_grind (nI b) (nI a) (v_lo σ) (v_ch σ) (v_ba σ) (v_st σ 2)) := L_can m1 m4 m5 m9 k13 k4 okC okB (by omega) (by omega) k3 k7 k10 hb ha1 ha2
  have st : f_L_acts_J299 (nI b) (nI m) (nI y) 1 G U H C E T X σ = (if 0 ≤ a_grind (nI b) (nI a) (v_lo σ) (v_ch σ) (v_ba σ) (v_st σ 2) then (f_L_grind (nI b) (nI a) G U H C E).bind fun q62 => (f_L_pass ((nI a + (9 : Int32)) / (10 : Int32)) q62.1 q62.2.1).bind fun q63 => (Q_grind (nI b) (nI a) σ).bind fun q64 => (if q64.1 = a_grind (nI b) (nI a) (v_lo σ) (v_ch σ) (v_ba σ) (v_st σ 2) then some ((1 : Int32), q63.2.1, q63.2.2, q62.2.2.1, q62.2.2.2.1, q62.2.2.2.2, T, X, q64.2) else some ((0 : Int32), q63.2.1, q63.2.2, q62.2.2.1, q62.2.2.2.1, q62.2.2.2.2, T, X, q64.2)) else (Q_grind (nI b) (nI a) σ).bind fun q66 => (if q66.1 = a_grind (nI b) (nI a) (v_lo σ) (v_ch σ) (v_ba σ) (v_st σ 2) then some ((1 : Int32), G, U, H, C, E, T, X, q66.2) else some ((0 : Int32), G, U, H, C, E, T, X, q66.2))) := by
    rw [f_L_acts_J299, gd_t (nI_ne0 hm (by omega)), pk_rem (by omega) hm (by omega), one_add, ha, lt_v, hcan, Option.bind_some]
  rw [st]
  by_cases h0 : 0 ≤ a_grind (nI b) (nI a) (v_lo σ) (v_ch σ) (v_ba σ) (v_st σ 2)
  · obtain ⟨-, hlo, hov, hv⟩ := agrind_ok h0
    rw [nx_n (by omega)] at hlo hov hv
    have hbx : buE b (bsel (v_b0 σ) (v_b1 σ) b) U := by
      unfold bsel
      rcases (show b = 0 ∨ b = 1 by omega) with rfl | rfl
      · rw [if_pos rfl]; exact m2
      · rw [if_neg (by decide)]; exact m3
    have hbk : buK (bsel (v_b0 σ) (v_b1 σ) b) := bsel_K b k11 k12
    obtain ⟨G1, U1, H1, C1, E1, g1, g2, g3, g4, g5, g6, g7, g8, g9⟩ := L_grind m1 m4 m5 hbx hbk (m9 2 (by decide)) k13.2.2.2.1 m12 k1 k2 k4 k5 k6 k7 hb ha1 ha2 hlo hl
    have hU0 : buE 0 (if b = 0 then buG (v_b0 σ) a else v_b0 σ) U1 := by
      rcases (show b = 0 ∨ b = 1 by omega) with rfl | rfl
      · rw [if_pos rfl]
        exact ⟨(g9 0 (by decide) (by decide)).trans m2.1, g5, g6, (g9 3 (by decide) (by decide)).trans m2.2.2.2⟩
      · rw [if_neg (by decide)]
        exact ⟨(g9 0 (by decide) (by decide)).trans m2.1, (g9 1 (by decide) (by decide)).trans m2.2.1, (g9 2 (by decide) (by decide)).trans m2.2.2.1, (g9 3 (by decide) (by decide)).trans m2.2.2.2⟩
    have hU1 : buE 1 (if b = 0 then v_b1 σ else buG (v_b1 σ) a) U1 := by
      rcases (show b = 0 ∨ b = 1 by omega) with rfl | rfl
      · rw [if_pos rfl]
        exact ⟨(g9 4 (by decide) (by decide)).trans m3.1, (g9 5 (by decide) (by decide)).trans m3.2.1, (g9 6 (by decide) (by decide)).trans m3.2.2.1, (g9 7 (by decide) (by decide)).trans m3.2.2.2⟩
      · rw [if_neg (by decide)]
        exact ⟨(g9 4 (by decide) (by decide)).trans m3.1, g5, g6, (g9 7 (by decide) (by decide)).trans m3.2.2.2⟩
    have w0 : (if b = 0 then buG (v_b0 σ) a else v_b0 σ).2.1 ≤ 300 := by split; exact buG_w _ _ k11.2.2; exact k11.2.2
    have w1 : (if b = 0 then v_b1 σ else buG (v_b1 σ) a).2.1 ≤ 300 := by split; exact k12.2.2; exact buG_w _ _ k12.2.2
    obtain ⟨G2, U2, p1, p2, p3, p4, p5, p6⟩ := L_pass (n := (a + 9) / 10) (t := v_se σ) (by omega) ((g8 0 (by decide) (by decide)).trans m10) hU0.2.1 hU1.2.1 (by omega) w0 w1
    have hQ : Q_grind (nI b) (nI a) σ = some (a_grind (nI b) (nI a) (v_lo σ) (v_ch σ) (v_ba σ) (v_st σ 2), o_grind b a σ) := by rw [Q_grind, QO_t hs h0, nx_n (by omega), nx_n (by omega)]
    have hKK := KK_self (K_grind hk h0)
    rw [nx_n (by omega), nx_n (by omega)] at hKK
    refine ⟨G2, U2, H1, C1, E1, T, X, o_grind b a σ, ?_, ?_, ⟨hKK, CS_grind hc hlo, ?_, hK, hT⟩, ?_⟩
    · rw [if_pos h0, g1, Option.bind_some, fa_lit 9, nI_add, fa_lit 10, pk_div (by omega) (by decide) (by decide), p1, Option.bind_some, hQ, Option.bind_some, if_pos rfl]
    · have gg : ∀ i, i ≠ 0 → i ≠ 2 → i ≠ 13 → G2 i = G i := fun i i0 i2 i13 => (p5 i i0).trans (g8 i i2 i13)
      refine ⟨⟨(p5 13 (by decide)).trans g2.1, g2.2⟩, ?_, ?_, g3, g4, m6, (gg 14 (by decide) (by decide) (by decide)).trans m7, (gg 5 (by decide) (by decide) (by decide)).trans m8, fun k hk => (gg _ (by omega) (by omega) (by omega)).trans (m9 k hk), p2, (gg 1 (by decide) (by decide) (by decide)).trans m11, (p5 2 (by decide)).trans g7, (gg 3 (by decide) (by decide) (by decide)).trans m13, (gg 4 (by decide) (by decide) (by decide)).trans m14, (gg 6 (by decide) (by decide) (by decide)).trans m15⟩
      · exact ⟨(p6 0 (by decide) (by decide)).trans hU0.1, p3, (p6 2 (by decide) (by decide)).trans hU0.2.2.1, (p6 3 (by decide) (by decide)).trans hU0.2.2.2⟩
      · exact ⟨(p6 4 (by decide) (by decide)).trans hU1.1, p4, (p6 6 (by decide) (by decide)).trans hU1.2.2.1, (p6 7 (by decide) (by decide)).trans hU1.2.2.2⟩
    · have ng := g_in_len (lo := v_lo σ) (ch := v_ch σ) (d := (bsel (v_b0 σ) (v_b1 σ) b).1) (w := (bsel (v_b0 σ) (v_b1 σ) b).2.1) (b := b) (a := a)
      have t2 := tk_len2 (g_in (v_lo σ) (v_ch σ) (bsel (v_b0 σ) (v_b1 σ) b).1 (bsel (v_b0 σ) (v_b1 σ) b).2.1 b a) (g_out (v_ch σ) a (v_st σ 2))
      show (tk (g_out (v_ch σ) a (v_st σ 2)) (g_in (v_lo σ) (v_ch σ) (bsel (v_b0 σ) (v_b1 σ) b).1 (bsel (v_b0 σ) (v_b1 σ) b).2.1 b a)).2.length + (v_ba σ ++ (tk (g_out (v_ch σ) a (v_st σ 2)) (g_in (v_lo σ) (v_ch σ) (bsel (v_b0 σ) (v_b1 σ) b).1 (bsel (v_b0 σ) (v_b1 σ) b).2.1 b a)).1).length ≤ 53
      rw [List.length_append]
      omega
    · show v_se σ + (a + 9) / 10 ≤ v_se σ + 3000
      omega
  · have hQ : Q_grind (nI b) (nI a) σ = some (a_grind (nI b) (nI a) (v_lo σ) (v_ch σ) (v_ba σ) (v_st σ 2), σ) := by rw [Q_grind, QO_f hs h0]
    rw [if_neg h0, hQ, Option.bind_some, if_pos rfl]
    exact ⟨G, U, H, C, E, T, X, σ, rfl, hR, hP.up (by decide), by omega⟩
theorem A_506 {y m : Nat} (hR : LR σ G U H C E T X) (hP : PI σ 53) (hs : v_se σ < 2 ^ 26) (hy : y < 2 ^ 30) (hm : 0 < m) (hm2 : m ≤ 999) : OK σ (f_L_acts_J506 (nI m) (nI y) 1 G U H C E T X σ) := by
  obtain ⟨m1, m2, m3, m4, m5, m6, m7, m8, m9, m10, m11, m12, m13, m14, m15⟩ := id hR
  obtain ⟨hk, hc, hl, hK, hT⟩ := id hP
  obtain ⟨k1, k2, k3, k4, k5, k6, k7, k8, k9, k10, k11, k12, k13, k14⟩ := id hk
  have hy2 := Nat.mod_lt y hm
  generalize ha : 1 + y % m = a
  have ha1 : 1 ≤ a := by omega
  have ha2 : a ≤ 999 := by omega
  obtain ⟨G2, U2, p1, p2, p3, p4, p5, p6⟩ := L_pass (n := a) (t := v_se σ) (by omega) m10 m2.2.1 m3.2.1 (by omega) k11.2.2 k12.2.2
  have hr := ar_ok (w0 := (v_b0 σ).2.1) (w1 := (v_b1 σ).2.1) (s := v_se σ) ha1 ha2
  have h0 : 0 ≤ a_rest (nI a) (v_b0 σ).2.1 (v_b1 σ).2.1 (v_se σ) := by rw [hr]; exact nI_pos' (by have := k11.2.2; have := k12.2.2; omega)
  have hQ : Q_rest (nI a) σ = some (nI ((v_b0 σ).2.1 + (v_b1 σ).2.1 - cl (tmz (v_se σ) a) (v_b0 σ).2.1 - cl (tmz (v_se σ) a) (v_b1 σ).2.1), o_rest a σ) := by rw [Q_rest, QO_t hs h0, hr, nx_n (by omega)]
  have hKK := KK_self (K_rest hk h0)
  rw [nx_n (by omega)] at hKK
  refine ⟨G2, U2, H, C, E, T, X, o_rest a σ, ?_, ?_, ⟨hKK, hc, hl, hK, hT⟩, ?_⟩
  · rw [f_L_acts_J506, gd_t (nI_ne0 hm (by omega)), pk_rem (by omega) hm (by omega), one_add, ha, lt_v, hQ, Option.bind_some, p1, Option.bind_some, if_pos rfl]
  · refine ⟨⟨(p5 13 (by decide)).trans m1.1, m1.2⟩, ?_, ?_, m4, m5, m6, (p5 14 (by decide)).trans m7, (p5 5 (by decide)).trans m8, fun k hk => (p5 _ (by omega)).trans (m9 k hk), p2, (p5 1 (by decide)).trans m11, (p5 2 (by decide)).trans m12, (p5 3 (by decide)).trans m13, (p5 4 (by decide)).trans m14, (p5 6 (by decide)).trans m15⟩
    · exact ⟨(p6 0 (by decide) (by decide)).trans m2.1, p3, (p6 2 (by decide) (by decide)).trans m2.2.2.1, (p6 3 (by decide) (by decide)).trans m2.2.2.2⟩
    · exact ⟨(p6 4 (by decide) (by decide)).trans m3.1, p4, (p6 6 (by decide) (by decide)).trans m3.2.2.1, (p6 7 (by decide) (by decide)).trans m3.2.2.2⟩
  · show v_se σ + a ≤ v_se σ + 3000
    omega
theorem A_708 {i a : Nat} (hR : LR σ G U H C E T X) (hP : PI σ 53) (hs : v_se σ < 2 ^ 26) (hi : i < 6) (h1 : lsN i ≤ a) (h2 : a ≤ msN i) : OK σ (f_L_acts_J708 (nI i) (nI (v_st σ i)) (nI a) (nI (7 + i)) G U H C E T X σ) := by
  obtain ⟨m1, m2, m3, m4, m5, m6, m7, m8, m9, m10, m11, m12, m13, m14, m15⟩ := id hR
  obtain ⟨hk, hc, hl, hK, hT⟩ := id hP
  have hm := msN_le i
  have hv : v_st σ i ≤ 600 := by
    obtain ⟨s1, s2, s3, s4, s5, s6, s7, s8, s9⟩ := hk.2.2.2.2.2.2.2.2.2.2.2.2.1
    rcases six hi with rfl | rfl | rfl | rfl | rfl | rfl <;> omega
  have hr := as_ok (v := v_st σ) hi h1 h2
  have h0 : 0 ≤ a_set (nI i) (nI a) (v_st σ) := by rw [hr]; exact nI_pos' (by omega)
  have hQ : Q_set (nI i) (nI a) σ = some (nI (v_st σ i), o_set i a σ) := by rw [Q_set, QO_t hs h0, hr, nx_n (by omega), nx_n (by omega)]
  have hKK := KK_self (K_set hk h0)
  rw [nx_n (by omega), nx_n (by omega)] at hKK
  refine ⟨upd G (7 + i) (nI a), U, H, C, E, T, X, o_set i a σ, ?_, ?_, ⟨hKK, hc, hl, hK, hT⟩, ?_⟩
  · rw [f_L_acts_J708, gd_t (nI_in (by omega) (by decide)), v_cl (by omega), lt_v, fa_lit 7, nI_add, gd_t (nI_in (by omega) (by decide)), v_cl (by omega), pk_us, hQ, Option.bind_some, if_pos rfl]
  · refine ⟨⟨(pk_un (by omega)).trans m1.1, m1.2⟩, m2, m3, m4, m5, m6, (pk_un (by omega)).trans m7, (pk_un (by omega)).trans m8, fun k hk => ?_, (pk_un (by omega)).trans m10, (pk_un (by omega)).trans m11, (pk_un (by omega)).trans m12, (pk_un (by omega)).trans m13, (pk_un (by omega)).trans m14, (pk_un (by omega)).trans m15⟩
    show upd G (7 + i) (nI a) (7 + k) = nI (updN (v_st σ) i a k)
    unfold updN
    by_cases e : k = i
    · rw [if_pos e, e, pk_us]
    · rw [if_neg e, pk_un (by omega)]; exact m9 k hk
  · show v_se σ ≤ v_se σ + 3000
    omega
theorem A_set {y : Nat} (hR : LR σ G U H C E T X) (hP : PI σ 53) (hs : v_se σ < 2 ^ 26) (hy : y < 2 ^ 30) : OK σ (lt ((nI y - nI y / (6 : Int32) * (6 : Int32))) fun v11 => gd (¬ (((7 : Int32) + v11) < 0 ∨ 15 ≤ ((7 : Int32) + v11).toNatClampNeg)) (lt ((G ((7 : Int32) + v11).toNatClampNeg)) fun v13 => (if v11 = 0 then f_L_acts_J708 v11 v13 ((100 : Int32) + ((nI y / (6 : Int32)) - (nI y / (6 : Int32)) / (501 : Int32) * (501 : Int32))) ((7 : Int32) + v11) G U H C E T X σ else (if v11 = (1 : Int32) then f_L_acts_J708 v11 v13 ((nI y / (6 : Int32)) - (nI y / (6 : Int32)) / (201 : Int32) * (201 : Int32)) ((7 : Int32) + v11) G U H C E T X σ else (if v11 = (2 : Int32) then f_L_acts_J708 v11 v13 ((nI y / (6 : Int32)) - (nI y / (6 : Int32)) / (101 : Int32) * (101 : Int32)) ((7 : Int32) + v11) G U H C E T X σ else (if (5 : Int32) ≤ v11 then f_L_acts_J708 v11 v13 ((nI y / (6 : Int32)) - (nI y / (6 : Int32)) / (2 : Int32) * (2 : Int32)) ((7 : Int32) + v11) G U H C E T X σ else f_L_acts_J708 v11 v13 ((30 : Int32) + ((nI y / (6 : Int32)) - (nI y / (6 : Int32)) / (271 : Int32) * (271 : Int32))) ((7 : Int32) + v11) G U H C E T X σ)))))) := by
  have m9 := hR.2.2.2.2.2.2.2.2.1
  have hi : y % 6 < 6 := Nat.mod_lt _ (by decide)
  have key : ∀ a : Nat, lsN (y % 6) ≤ a → a ≤ msN (y % 6) → OK σ (f_L_acts_J708 (nI (y % 6)) (nI (v_st σ (y % 6))) (nI a) (nI (7 + y % 6)) G U H C E T X σ) := fun a h1 h2 => A_708 hR hP hs hi h1 h2
  have hz : ∀ d : Nat, 0 < d → d < 2 ^ 20 → nI (y / 6) - nI (y / 6) / nI d * nI d = nI (y / 6 % d) := fun d h1 h2 => pk_rem (by omega) h1 (by omega)
  have e6 : nI y - nI y / (6 : Int32) * (6 : Int32) = nI (y % 6) := pk_rem (a := y) (d := 6) (by omega) (by decide) (by decide)
  have d6 : nI y / (6 : Int32) = nI (y / 6) := pk_div (a := y) (d := 6) (by omega) (by decide) (by decide)
  have e7 : (7 : Int32) + nI (y % 6) = nI (7 + y % 6) := nI_add 7 _
  rw [e6, d6, lt_v, e7, gd_t (nI_in (by omega) (by decide)), v_cl (by omega), m9 _ hi, lt_v, fa_lit 501, fa_lit 201, fa_lit 101, fa_lit 271, hz 501 (by decide) (by decide), hz 201 (by decide) (by decide), hz 101 (by decide) (by decide), hz 271 (by decide) (by decide), show nI (y / 6) - nI (y / 6) / (2 : Int32) * (2 : Int32) = nI (y / 6 % 2) from hz 2 (by decide) (by decide), show (100 : Int32) + nI (y / 6 % 501) = nI (100 + y / 6 % 501) from nI_add 100 _, show (30 : Int32) + nI (y / 6 % 271) = nI (30 + y / 6 % 271) from nI_add 30 _]
  generalize y % 6 = i at *
  have q1 := Nat.mod_lt (y / 6) (show 0 < 501 by decide)
  have q2 := Nat.mod_lt (y / 6) (show 0 < 201 by decide)
  have q3 := Nat.mod_lt (y / 6) (show 0 < 101 by decide)
  have q4 := Nat.mod_lt (y / 6) (show 0 < 271 by decide)
  have q5 := Nat.mod_lt (y / 6) (show 0 < 2 by decide)
  rcases six hi with rfl | rfl | rfl | rfl | rfl | rfl
  · rw [if_pos nI_0]; exact key _ (by unfold lsN; simp) (by unfold msN; simp; omega)
  · rw [if_neg (by decide), if_pos (by decide)]; exact key _ (by unfold lsN; simp) (by unfold msN; simp; omega)
  · rw [if_neg (by decide), if_neg (by decide), if_pos (by decide)]; exact key _ (by unfold lsN; simp) (by unfold msN; simp; omega)
  · rw [if_neg (by decide), if_neg (by decide), if_neg (by decide), if_neg (by decide)]; exact key _ (by unfold lsN; simp) (by unfold msN; simp; omega)
  · rw [if_neg (by decide), if_neg (by decide), if_neg (by decide), if_neg (by decide)]; exact key _ (by unfold lsN; simp) (by unfold msN; simp; omega)
  · rw [if_neg (by decide), if_neg (by decide), if_neg (by decide), if_pos (by decide)]; exact key _ (by unfold lsN; simp) (by unfold msN; simp; omega)
theorem A_dial {y : Nat} (hR : LR σ G U H C E T X) (hP : PI σ 53) (hs : v_se σ < 2 ^ 26) (hy : y < 2 ^ 30) : OK σ (lt ((nI y - nI y / (2 : Int32) * (2 : Int32))) fun v26 => gd (¬ (((4 : Int32) * v26) < 0 ∨ 8 ≤ ((4 : Int32) * v26).toNatClampNeg)) (lt ((U ((4 : Int32) * v26).toNatClampNeg)) fun v28 => lt (((1 : Int32) + ((nI y / (2 : Int32)) - (nI y / (2 : Int32)) / (60 : Int32) * (60 : Int32)))) fun v29 => gd (¬ (((4 : Int32) * v26) < 0 ∨ 8 ≤ ((4 : Int32) * v26).toNatClampNeg)) (lt (upd U ((4 : Int32) * v26).toNatClampNeg v29) fun Z31 => gd (¬ (((4 : Int32) * v26) < 0 ∨ 8 ≤ ((4 : Int32) * v26).toNatClampNeg)) ((Q_dial v26 (Z31 ((4 : Int32) * v26).toNatClampNeg) σ).bind fun q33 => (if q33.1 = v28 then some ((1 : Int32), G, Z31, H, C, E, T, X, q33.2) else some ((0 : Int32), G, Z31, H, C, E, T, X, q33.2)))))) := by
  obtain ⟨m1, m2, m3, m4, m5, m6, m7, m8, m9, m10, m11, m12, m13, m14, m15⟩ := id hR
  obtain ⟨hk, hc, hl, hK, hT⟩ := id hP
  obtain ⟨k1, k2, k3, k4, k5, k6, k7, k8, k9, k10, k11, k12, k13, k14⟩ := id hk
  have e2 : nI y - nI y / (2 : Int32) * (2 : Int32) = nI (y % 2) := pk_rem (a := y) (d := 2) (by omega) (by decide) (by decide)
  have d2 : nI y / (2 : Int32) = nI (y / 2) := pk_div (a := y) (d := 2) (by omega) (by decide) (by decide)
  have e60 : nI (y / 2) - nI (y / 2) / (60 : Int32) * (60 : Int32) = nI (y / 2 % 60) := pk_rem (a := y / 2) (d := 60) (by omega) (by decide) (by decide)
  have hb : y % 2 < 2 := Nat.mod_lt _ (by decide)
  have hd := Nat.mod_lt (y / 2) (show 0 < 60 by decide)
  rw [e2, d2, e60, one_add]
  generalize y % 2 = b at hb ⊢
  generalize hdd : 1 + y / 2 % 60 = d
  have hd1 : 1 ≤ d := by omega
  have hd2 : d ≤ 60 := by omega
  have i0 : (4 : Int32) * nI b = nI (4 * b) := by rw [fa_lit 4, pk_mul]
  have g0 : ¬ (nI (4 * b) < 0 ∨ 8 ≤ (nI (4 * b)).toNatClampNeg) := nI_in (by omega) (by decide)
  have hbx : U (4 * b) = nI (bsel (v_b0 σ) (v_b1 σ) b).1 := by
    unfold bsel
    rcases (show b = 0 ∨ b = 1 by omega) with rfl | rfl
    · rw [if_pos rfl]; exact m2.1
    · rw [if_neg (by decide)]; exact m3.1
  have hbk : buK (bsel (v_b0 σ) (v_b1 σ) b) := bsel_K b k11 k12
  have hr := ad_ok (b0 := v_b0 σ) (b1 := v_b1 σ) hb hd1 hd2
  have h0 : 0 ≤ a_dial (nI b) (nI d) (v_b0 σ) (v_b1 σ) := by rw [hr]; exact nI_pos' (by have := hbk.2.1; omega)
  have hQ : Q_dial (nI b) (nI d) σ = some (nI (bsel (v_b0 σ) (v_b1 σ) b).1, o_dial b d σ) := by rw [Q_dial, QO_t hs h0, hr, nx_n (by omega), nx_n (by omega)]
  have hKK := KK_self (K_dial hk h0)
  rw [nx_n (by omega), nx_n (by omega)] at hKK
  refine ⟨G, upd U (4 * b) (nI d), H, C, E, T, X, o_dial b d σ, ?_, ?_, ⟨hKK, CS_dial hc, hl, hK, hT⟩, ?_⟩
  · simp only [lt_v]
    rw [i0, gd_t g0, gd_t g0, gd_t g0, v_cl (by omega), hbx, pk_us, hQ, Option.bind_some, if_pos rfl]
  · refine ⟨m1, ?_, ?_, m4, m5, m6, m7, m8, m9, m10, m11, m12, m13, m14, m15⟩
    · show buE 0 (if b = 0 then (d, (v_b0 σ).2) else v_b0 σ) _
      rcases (show b = 0 ∨ b = 1 by omega) with rfl | rfl
      · rw [if_pos rfl]
        exact ⟨pk_us, (pk_un (by decide)).trans m2.2.1, (pk_un (by decide)).trans m2.2.2.1, (pk_un (by decide)).trans m2.2.2.2⟩
      · rw [if_neg (by decide)]
        exact ⟨(pk_un (by decide)).trans m2.1, (pk_un (by decide)).trans m2.2.1, (pk_un (by decide)).trans m2.2.2.1, (pk_un (by decide)).trans m2.2.2.2⟩
    · show buE 1 (if b = 0 then v_b1 σ else (d, (v_b1 σ).2)) _
      rcases (show b = 0 ∨ b = 1 by omega) with rfl | rfl
      · rw [if_pos rfl]
        exact ⟨(pk_un (by decide)).trans m3.1, (pk_un (by decide)).trans m3.2.1, (pk_un (by decide)).trans m3.2.2.1, (pk_un (by decide)).trans m3.2.2.2⟩
      · rw [if_neg (by decide)]
        exact ⟨pk_us, (pk_un (by decide)).trans m3.2.1, (pk_un (by decide)).trans m3.2.2.1, (pk_un (by decide)).trans m3.2.2.2⟩
  · show v_se σ ≤ v_se σ + 3000
    omega
theorem A_corr {y : Nat} (hR : LR σ G U H C E T X) (hP : PI σ 53) (hs : v_se σ < 2 ^ 26) (hy : y < 2 ^ 30) : OK σ (if (G (14 : Int32).toNatClampNeg) = 0 then (Q_correct (nI y - nI y / (2 : Int32) * (2 : Int32)) σ).bind fun q23 => (if q23.1 = (-1000002 : Int32) then some ((1 : Int32), G, U, H, C, E, T, X, q23.2) else some ((0 : Int32), G, U, H, C, E, T, X, q23.2)) else (f_L_correct (nI y - nI y / (2 : Int32) * (2 : Int32)) (T (1 : Int32).toNatClampNeg) G U).bind fun q19 => (Q_correct (nI y - nI y / (2 : Int32) * (2 : Int32)) σ).bind fun q20 => gd (¬ (((4 : Int32) * (nI y - nI y / (2 : Int32) * (2 : Int32))) < 0 ∨ 8 ≤ ((4 : Int32) * (nI y - nI y / (2 : Int32) * (2 : Int32))).toNatClampNeg)) ((if q20.1 = (q19 ((4 : Int32) * (nI y - nI y / (2 : Int32) * (2 : Int32))).toNatClampNeg) then some ((1 : Int32), G, q19, H, C, E, T, X, q20.2) else some ((0 : Int32), G, q19, H, C, E, T, X, q20.2)))) := by
  obtain ⟨m1, m2, m3, m4, m5, m6, m7, m8, m9, m10, m11, m12, m13, m14, m15⟩ := id hR
  obtain ⟨hk, hc, hl, hK, hT⟩ := id hP
  obtain ⟨k1, k2, k3, k4, k5, k6, k7, k8, k9, k10, k11, k12, k13, k14⟩ := id hk
  have e2 : nI y - nI y / (2 : Int32) * (2 : Int32) = nI (y % 2) := pk_rem (a := y) (d := 2) (by omega) (by decide) (by decide)
  have hb : y % 2 < 2 := Nat.mod_lt _ (by decide)
  rw [e2, cN (n := 14) (by decide), m7, cN (n := 1) (by decide)]
  generalize y % 2 = b at hb ⊢
  have hr := ac_ok (K := v_K σ) (b0 := v_b0 σ) (b1 := v_b1 σ) (g := v_st σ 0) hb
  by_cases c0 : (v_K σ).length = 0
  · rw [if_pos c0] at hr
    have hQ : Q_correct (nI b) σ = some (cNP, σ) := by rw [Q_correct, hr, QO_f hs (by decide)]
    rw [if_pos (by rw [c0]; exact nI_0), hQ, Option.bind_some, if_pos rfl]
    exact ⟨G, U, H, C, E, T, X, σ, rfl, hR, hP, by omega⟩
  · rw [if_neg c0] at hr
    have h1 := (m6 0 (by omega)).2.1
    have ht := hT 0 (by omega)
    rw [show 3 * 0 + 1 = 1 from rfl] at h1
    have hbx : buE b (bsel (v_b0 σ) (v_b1 σ) b) U := by
      unfold bsel
      rcases (show b = 0 ∨ b = 1 by omega) with rfl | rfl
      · rw [if_pos rfl]; exact m2
      · rw [if_neg (by decide)]; exact m3
    have hbk : buK (bsel (v_b0 σ) (v_b1 σ) b) := bsel_K b k11 k12
    have hL := L_correct hb hbx hbk (m9 0 (by decide)) ht k13.1 k13.2.1
    have h0 : 0 ≤ a_corr (nI b) (v_K σ) (v_b0 σ) (v_b1 σ) (v_st σ 0) := by rw [hr]; exact nI_pos' (by unfold cor; omega)
    have hQ : Q_correct (nI b) σ = some (nI (cor (bsel (v_b0 σ) (v_b1 σ) b).1 (sk0 (v_K σ) 0).2.1 (v_st σ 0)), o_corr b σ) := by rw [Q_correct, QO_t hs h0, hr, nx_n (by omega)]
    have i0 : (4 : Int32) * nI b = nI (4 * b) := by rw [fa_lit 4, pk_mul]
    refine ⟨G, upd (upd U (4 * b) (nI (cor (bsel (v_b0 σ) (v_b1 σ) b).1 (sk0 (v_K σ) 0).2.1 (v_st σ 0)))) (4 * b + 3) ((bsel (v_b0 σ) (v_b1 σ) b).2.2.2 + 1), H, C, E, T, X, o_corr b σ, ?_, ?_, ⟨KK_self (K_corr b hk), CS_corr hc, hl, hK, hT⟩, ?_⟩
    · rw [if_neg (nI_ne0 (by omega) (by omega)), h1, hL, Option.bind_some, hQ, Option.bind_some, i0, gd_t (nI_in (by omega) (by decide)), v_cl (by omega), pk_un (by omega), pk_us, if_pos rfl]
    · refine ⟨m1, ?_, ?_, m4, m5, m6, m7, m8, m9, m10, m11, m12, m13, m14, m15⟩
      · show buE 0 (if b = 0 then buX (v_b0 σ) (sk0 (v_K σ) 0).2.1 (v_st σ 0) else v_b0 σ) _
        rcases (show b = 0 ∨ b = 1 by omega) with rfl | rfl
        · rw [if_pos rfl]
          exact ⟨(pk_un (by decide)).trans pk_us, (pk_un (by decide)).trans ((pk_un (by decide)).trans m2.2.1), (pk_un (by decide)).trans ((pk_un (by decide)).trans m2.2.2.1), pk_us⟩
        · rw [if_neg (by decide)]
          exact ⟨(pk_un (by decide)).trans ((pk_un (by decide)).trans m2.1), (pk_un (by decide)).trans ((pk_un (by decide)).trans m2.2.1), (pk_un (by decide)).trans ((pk_un (by decide)).trans m2.2.2.1), (pk_un (by decide)).trans ((pk_un (by decide)).trans m2.2.2.2)⟩
      · show buE 1 (if b = 0 then v_b1 σ else buX (v_b1 σ) (sk0 (v_K σ) 0).2.1 (v_st σ 0)) _
        rcases (show b = 0 ∨ b = 1 by omega) with rfl | rfl
        · rw [if_pos rfl]
          exact ⟨(pk_un (by decide)).trans ((pk_un (by decide)).trans m3.1), (pk_un (by decide)).trans ((pk_un (by decide)).trans m3.2.1), (pk_un (by decide)).trans ((pk_un (by decide)).trans m3.2.2.1), (pk_un (by decide)).trans ((pk_un (by decide)).trans m3.2.2.2)⟩
        · rw [if_neg (by decide)]
          exact ⟨(pk_un (by decide)).trans pk_us, (pk_un (by decide)).trans ((pk_un (by decide)).trans m3.2.1), (pk_un (by decide)).trans ((pk_un (by decide)).trans m3.2.2.1), pk_us⟩
    · show v_se σ ≤ v_se σ + 3000
      omega
theorem A_acts (hR : LR σ G U H C E T X) (hP : PI σ 53) (hs : v_se σ < 2 ^ 26) (z : Int32) : OK σ (f_L_acts z G U H C E T X σ) := by
  obtain ⟨y, hy, e1⟩ := L_low (z >>> ((5 : Int32) &&& 31)) (n := 10000000) (by decide) (by decide)
  obtain ⟨w, hw, e2⟩ := L_low z (n := 24) (by decide) (by decide)
  have e1' : f_L_low (z >>> ((5 : Int32) &&& 31)) (10000000 : Int32) = some (nI y) := e1
  have e2' : f_L_low z (24 : Int32) = some (nI w) := e2
  have m4 := hR.2.2.2.1
  have m5 := hR.2.2.2.2.1
  have hl := hP.2.2.1
  have rem : ∀ d : Nat, 0 < d → d < 2 ^ 20 → nI y - nI y / nI d * nI d = nI (y % d) := fun d h1 h2 => pk_rem (by omega) h1 (by omega)
  have d2 : nI y / (2 : Int32) = nI (y / 2) := pk_div (a := y) (d := 2) (by omega) (by decide) (by decide)
  rw [f_L_acts, e1', Option.bind_some, e2', Option.bind_some, cN (n := 0) (by decide), m5.1, m4.1, nI_add]
  by_cases c46 : (v_ba σ).length + (v_ch σ).length ≤ 46
  · rw [if_pos (show nI ((v_ba σ).length + (v_ch σ).length) ≤ (46 : Int32) from nI_le (b := 46) c46 (by decide))]
    by_cases c6 : w < 6
    · rw [if_neg (show ¬ (6 : Int32) ≤ nI w from nI_ge (b := 6) c6 (by decide)), lt_v, d2]
      have h2 : nI y - nI y / (2 : Int32) * (2 : Int32) = nI (y % 2) := rem 2 (by decide) (by decide)
      rw [d2] at h2
      rw [h2]
      have hb : y % 2 < 2 := Nat.mod_lt _ (by decide)
      split
      · exact A_102 (m := 999) hR hP hs hb (by omega) (by decide) (by decide)
      · exact A_102 (m := 180) hR hP hs hb (by omega) (by decide) (by decide)
    · rw [if_pos (show (6 : Int32) ≤ nI w from nI_le (a := 6) (by omega) (by omega))]
      by_cases c14 : w < 14
      · rw [if_neg (show ¬ (14 : Int32) ≤ nI w from nI_ge (b := 14) c14 (by decide)), lt_v, d2]
        have h2 : nI y - nI y / (2 : Int32) * (2 : Int32) = nI (y % 2) := rem 2 (by decide) (by decide)
        rw [d2] at h2
        rw [h2]
        have hb : y % 2 < 2 := Nat.mod_lt _ (by decide)
        have hP46 : PI σ 46 := ⟨hP.1, hP.2.1, by omega, hP.2.2.2⟩
        split
        · exact A_299 (m := 400) hR hP46 hs hb (by omega) (by decide) (by decide)
        · exact A_299 (m := 130) hR hP46 hs hb (by omega) (by decide) (by decide)
      · rw [if_pos (show (14 : Int32) ≤ nI w from nI_le (a := 14) (by omega) (by omega))]
        by_cases c17 : w < 17
        · rw [if_neg (show ¬ (17 : Int32) ≤ nI w from nI_ge (b := 17) c17 (by decide))]
          obtain ⟨G', U', E', T', X', σ', a1, a2, a3, a4⟩ := A_shoots hR hP hs
          rw [a1, Option.bind_some, gd_t (Or.inr rfl)]
          exact ⟨G', U', H, C, E', T', X', σ', rfl, a2, a3, a4⟩
        · rw [if_pos (show (17 : Int32) ≤ nI w from nI_le (a := 17) (by omega) (by omega))]
          by_cases c17b : w = 17
          · rw [if_pos (by rw [c17b]; rfl)]
            obtain ⟨G', C', σ', a1, a2, a3, a4⟩ := A_purges hR hP hs
            rw [a1, Option.bind_some, gd_t (Or.inr rfl)]
            exact ⟨G', U, H, C', E, T, X, σ', rfl, a2, a3, a4⟩
          · rw [if_neg (show ¬ nI w = (17 : Int32) from fun q => c17b ((nI_eq (b := 17) (by omega) (by decide)).mp q))]
            by_cases c18 : w = 18
            · rw [if_pos (by rw [c18]; rfl)]
              exact A_dial hR hP hs (by omega)
            · rw [if_neg (show ¬ nI w = (18 : Int32) from fun q => c18 ((nI_eq (b := 18) (by omega) (by decide)).mp q))]
              by_cases c21 : w < 21
              · rw [if_neg (show ¬ (21 : Int32) ≤ nI w from nI_ge (b := 21) c21 (by decide))]
                split
                · exact A_506 (m := 999) hR hP hs (by omega) (by decide) (by decide)
                · exact A_506 (m := 40) hR hP hs (by omega) (by decide) (by decide)
              · rw [if_pos (show (21 : Int32) ≤ nI w from nI_le (a := 21) (by omega) (by omega))]
                by_cases c21b : w = 21
                · rw [if_pos (by rw [c21b]; rfl)]
                  exact A_corr hR hP hs (by omega)
                · rw [if_neg (show ¬ nI w = (21 : Int32) from fun q => c21b ((nI_eq (b := 21) (by omega) (by decide)).mp q))]
                  exact A_set hR hP hs (by omega)
  · rw [if_neg (show ¬ nI ((v_ba σ).length + (v_ch σ).length) ≤ (46 : Int32) from nI_ge (a := 46) (by omega) (by omega))]
    split
    · obtain ⟨G', C', σ', a1, a2, a3, a4⟩ := A_purges hR hP hs
      rw [a1, Option.bind_some, gd_t (Or.inr rfl)]
      exact ⟨G', U, H, C', E, T, X, σ', rfl, a2, a3, a4⟩
    · obtain ⟨G', U', E', T', X', σ', a1, a2, a3, a4⟩ := A_shoots hR hP hs
      rw [a1, Option.bind_some, gd_t (Or.inr rfl)]
      exact ⟨G', U', H, C, E', T', X', σ', rfl, a2, a3, a4⟩
end LA2
end
