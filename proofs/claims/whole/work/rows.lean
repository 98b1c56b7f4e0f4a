section
/-! the partial functions of the methods (printed by wip/whole/gen) -/
def gd {β : Type} (c : Prop) [Decidable c] (x : Option β) : Option β := if c then x else none
theorem gd_s {β : Type} {c : Prop} [Decidable c] {x : Option β} {r : β} (h : gd c x = some r) : c ∧ x = some r := by
  unfold gd at h
  split at h
  · exact ⟨by assumption, h⟩
  · cases h
theorem gd_t {β : Type} {c : Prop} [Decidable c] {x : Option β} (h : c) : gd c x = x := if_pos h
theorem ob {α β : Type} {x : Option α} {f : α → Option β} {r : β} (h : x.bind f = some r) : ∃ a, x = some a ∧ f a = some r := Option.bind_eq_some_iff.mp h
theorem it {β : Type} {c : Prop} [Decidable c] {a b x : β} (hc : c) (h : (if c then a else b) = x) : a = x := by rwa [if_pos hc] at h
theorem ie {β : Type} {c : Prop} [Decidable c] {a b x : β} (hc : ¬ c) (h : (if c then a else b) = x) : b = x := by rwa [if_neg hc] at h
def lt {α β : Type} (x : α) (f : α → β) : β := f x
theorem lt_e {α β : Type} {x y : α} {f : α → β} {r : β} (e : y = x) (h : lt x f = r) : f y = r := by subst e; exact h
theorem lt_v {α β : Type} (x : α) (f : α → β) : lt x f = f x := rfl
def FU : Nat := 20000
def tbL : Nat → Int32 := fun j => match j with
  | 0 => 100
  | 3 => 30
  | 4 => 30
  | _ => 0
def tbM : Nat → Int32 := fun j => match j with
  | 0 => 600
  | 1 => 200
  | 2 => 100
  | 3 => 300
  | 4 => 300
  | _ => 1
noncomputable def f_X7_isZeroOrOne_J9 : Option (Int32) := some (1 : Int32)
noncomputable def f_X7_isZeroOrOne (x0 : Int32) : Option (Int32) := (if x0 = 0 then f_X7_isZeroOrOne_J9 else (if x0 = (1 : Int32) then f_X7_isZeroOrOne_J9 else some (0 : Int32)))
noncomputable def f_X7_fallOf (x0 : Int32) : Option (Int32) := (if (1 : Int32) ≤ x0 then (if (16 : Int32) ≤ x0 then some (x0 / (16 : Int32)) else some (1 : Int32)) else some (0 : Int32))
noncomputable def f_X7_flowOf (x0 : Int32) (x1 : Int32) : Option (Int32) := (if (10 : Int32) ≤ x1 then gd (¬ x1 = 0) (some ((x0 * (1000 : Int32)) / x1)) else some (0 : Int32))
noncomputable def f_X7_markOf_J22 (z0_22 : Int32) (z1_22 : Int32) : Option (Int32) := some (z1_22 ||| z0_22)
noncomputable def f_X7_markOf_J12 (y0_12 : Int32) (z0_12 : Int32) (z1_12 : Int32) : Option (Int32) := (if y0_12 = 0 then f_X7_markOf_J22 (0 : Int32) (z1_12 ||| z0_12) else f_X7_markOf_J22 (1 : Int32) (z1_12 ||| z0_12))
noncomputable def f_X7_markOf (x0 : Int32) (x1 : Int32) (x2 : Int32) : Option (Int32) := (if x1 = 0 then f_X7_markOf_J12 x0 (0 : Int32) (x2 <<< ((2 : Int32) &&& 31)) else f_X7_markOf_J12 x0 (2 : Int32) (x2 <<< ((2 : Int32) &&& 31)))
noncomputable def f_X7_kindOfMark (x0 : Int32) : Option (Int32) := some (x0 &&& (1 : Int32))
noncomputable def f_X7_burrOfMark (x0 : Int32) : Option (Int32) := some ((x0 &&& (2 : Int32)) >>> ((1 : Int32) &&& 31))
noncomputable def f_X7_gapOfMark (x0 : Int32) : Option (Int32) := some (x0 >>> ((2 : Int32) &&& 31))
noncomputable def f_X0_gapAt (x1 : Int32) (w : Int32) : Option (Int32) := lt ((if (10 : Int32) < (((10 : Int32) * x1) - (w / (5 : Int32))) then (((10 : Int32) * x1) - (w / (5 : Int32))) else (10 : Int32))) fun v1 => some v1
noncomputable def f_X0_gap (d : Int32) (w : Int32) : Option (Int32) := (f_X0_gapAt d w).bind fun q1 => some q1
noncomputable def f_X0_warmByGrinding (x1 : Int32) (w : Int32) (g : Int32) : Option (Int32 × Int32) := lt ((if (w + (x1 / (4 : Int32))) < (300 : Int32) then (w + (x1 / (4 : Int32))) else (300 : Int32))) fun v1 => lt ((g + x1)) fun v2 => some (v1, v2)
noncomputable def f_X0_cool_L2 (y1_2 : Int32) : Nat → Int32 → Int32 → Option (Int32)
  | 0, _, _ => none
  | fu + 1, y2_2, w_2 => (if y1_2 ≤ y2_2 then some w_2 else (if w_2 ≤ 0 then some w_2 else (f_X7_fallOf w_2).bind fun q3 => lt ((w_2 - q3)) fun v4 => lt (y2_2 + (1 : Int32)) fun v5 => (f_X0_cool_L2 y1_2 fu) v5 v4))
noncomputable def f_X0_cool (x1 : Int32) (w : Int32) : Option (Int32) := f_X0_cool_L2 x1 FU (0 : Int32) w
noncomputable def f_X0_coolingsTo_L7 (w : Int32) (y1_7 : Int32) : Nat → Int32 → Int32 → Option (Int32)
  | 0, _, _ => none
  | fu + 1, y2_7, y3_7 => (if y3_7 ≤ y1_7 then some y2_7 else (if (300 : Int32) ≤ y2_7 then some y2_7 else lt (y2_7 + (1 : Int32)) fun v3 => (f_X7_fallOf y3_7).bind fun q4 => lt ((y3_7 - q4)) fun v5 => (f_X0_coolingsTo_L7 w y1_7 fu) v3 v5))
noncomputable def f_X0_coolingsTo (x1 : Int32) (w : Int32) : Option (Int32) := f_X0_coolingsTo_L7 w x1 FU (0 : Int32) w
noncomputable def f_X0_correctBy (x1 : Int32) (x2 : Int32) (d : Int32) (k : Int32) : Option (Int32 × Int32) := lt ((if (1 : Int32) < x2 then x2 else (1 : Int32))) fun v1 => gd (¬ v1 = 0) (lt ((((d * x1) + (x2 / (2 : Int32))) / v1)) fun v3 => lt ((if v3 < (60 : Int32) then v3 else (60 : Int32))) fun v4 => lt ((if (1 : Int32) < v4 then v4 else (1 : Int32))) fun v5 => lt ((k + (1 : Int32))) fun v6 => some (v5, v6))
noncomputable def f_X0_tell (x1 : Int32) (d : Int32) (w : Int32) (g : Int32) (k : Int32) : Option (Int32) := (if x1 = 0 then some d else (if x1 = 1 then some w else (if x1 = 2 then (f_X0_gap d w).bind fun q4 => some q4 else (if x1 = 3 then some g else some k))))
noncomputable def f_X0_copyFrom (d : Int32) (w : Int32) (g : Int32) (k : Int32) (d2 : Int32) (w2 : Int32) (g2 : Int32) (k2 : Int32) : Option (Int32 × Int32 × Int32 × Int32) := some (d2, w2, g2, k2)
noncomputable def f_X5_clear (N : Nat) (n : Int32) (t : Int32) : Option (Int32 × Int32) := some ((0 : Int32), (0 : Int32))
noncomputable def f_X5_append (N : Nat) (x1 : Int32) (x2 : Int32) (A : Nat → Int32) (M : Nat → Int32) (n : Int32) (t : Int32) : Option ((Nat → Int32) × (Nat → Int32) × Int32 × Int32) := (if (nI N) ≤ n then some (A, M, n, t) else gd (¬ (n < 0 ∨ N ≤ n.toNatClampNeg)) (lt (upd A n.toNatClampNeg x1) fun Z3 => gd (¬ (n < 0 ∨ N ≤ n.toNatClampNeg)) (lt (upd M n.toNatClampNeg x2) fun Z5 => lt ((n + (1 : Int32))) fun v6 => lt ((t + x1)) fun v7 => some (Z3, Z5, v6, v7))))
noncomputable def f_X5_addToLast (N : Nat) (x1 : Int32) (A : Nat → Int32) (n : Int32) (t : Int32) : Option ((Nat → Int32) × Int32) := (if n ≤ 0 then some (A, t) else lt ((n - (1 : Int32))) fun v2 => gd (¬ (v2 < 0 ∨ N ≤ v2.toNatClampNeg)) (lt (((A v2.toNatClampNeg) + x1)) fun v4 => gd (¬ (v2 < 0 ∨ N ≤ v2.toNatClampNeg)) (lt (upd A v2.toNatClampNeg v4) fun Z6 => lt ((t + x1)) fun v7 => some (Z6, v7))))
noncomputable def f_X5_dropFirst (N : Nat) (x1 : Int32) (A : Nat → Int32) (M : Nat → Int32) (n : Int32) : Option ((Nat → Int32) × (Nat → Int32) × Int32) := lt ((n - x1)) fun v1 => gd (¬ x1 < 0 ∧ ¬ (0 : Int32) < 0 ∧ ¬ v1 < 0 ∧ x1.toNatClampNeg + v1.toNatClampNeg ≤ N ∧ (0 : Int32).toNatClampNeg + v1.toNatClampNeg ≤ N) (lt (va_cpy A A x1.toNatClampNeg (0 : Int32).toNatClampNeg v1.toNatClampNeg) fun Z3 => gd (¬ x1 < 0 ∧ ¬ (0 : Int32) < 0 ∧ ¬ v1 < 0 ∧ x1.toNatClampNeg + v1.toNatClampNeg ≤ N ∧ (0 : Int32).toNatClampNeg + v1.toNatClampNeg ≤ N) (lt (va_cpy M M x1.toNatClampNeg (0 : Int32).toNatClampNeg v1.toNatClampNeg) fun Z5 => some (Z3, Z5, v1)))
noncomputable def f_X5_amountAt_J12 (N : Nat) (A : Nat → Int32) (n : Int32) : Option (Int32) := some (0 : Int32)
noncomputable def f_X5_amountAt (N : Nat) (x1 : Int32) (A : Nat → Int32) (n : Int32) : Option (Int32) := (if x1 < 0 then f_X5_amountAt_J12 N A n else (if x1 < n then gd (¬ (x1 < 0 ∨ N ≤ x1.toNatClampNeg)) (some (A x1.toNatClampNeg)) else f_X5_amountAt_J12 N A n))
noncomputable def f_X5_markAt_J12 (N : Nat) (M : Nat → Int32) (n : Int32) : Option (Int32) := some (0 : Int32)
noncomputable def f_X5_markAt (N : Nat) (x1 : Int32) (M : Nat → Int32) (n : Int32) : Option (Int32) := (if x1 < 0 then f_X5_markAt_J12 N M n else (if x1 < n then gd (¬ (x1 < 0 ∨ N ≤ x1.toNatClampNeg)) (some (M x1.toNatClampNeg)) else f_X5_markAt_J12 N M n))
noncomputable def f_X5_isMostly_J34 (r4 : Int32 → Int32 → Option (Int32)) (N : Nat) (A : Nat → Int32) (M : Nat → Int32) (n : Int32) (t : Int32) (y1_4 : Int32) (y3_34 : Int32) (z0_34 : Int32) (z1_34 : Int32) : Option (Int32) := lt ((z1_34 + z0_34)) fun v6 => lt (y3_34 + (1 : Int32)) fun v7 => r4 v6 v7
noncomputable def f_X5_isMostly_L4 (N : Nat) (A : Nat → Int32) (M : Nat → Int32) (n : Int32) (t : Int32) (y1_4 : Int32) : Nat → Int32 → Int32 → Option (Int32)
  | 0, _, _ => none
  | fu + 1, y2_4, y3_4 => (if n ≤ y3_4 then (if y2_4 ≤ (t - y2_4) then some (0 : Int32) else some (1 : Int32)) else gd (¬ (y3_4 < 0 ∨ N ≤ y3_4.toNatClampNeg)) ((if ((M y3_4.toNatClampNeg) &&& y1_4) = 0 then f_X5_isMostly_J34 (f_X5_isMostly_L4 N A M n t y1_4 fu) N A M n t y1_4 y3_4 (0 : Int32) y2_4 else gd (¬ (y3_4 < 0 ∨ N ≤ y3_4.toNatClampNeg)) (f_X5_isMostly_J34 (f_X5_isMostly_L4 N A M n t y1_4 fu) N A M n t y1_4 y3_4 (A y3_4.toNatClampNeg) y2_4))))
noncomputable def f_X5_isMostly (N : Nat) (x1 : Int32) (A : Nat → Int32) (M : Nat → Int32) (n : Int32) (t : Int32) : Option (Int32) := f_X5_isMostly_L4 N A M n t x1 FU (0 : Int32) (0 : Int32)
noncomputable def f_X5_amountUpToLastUnlike_J39 (r7 : Int32 → Int32 → Int32 → Option (Int32)) (N : Nat) (A : Nat → Int32) (M : Nat → Int32) (n : Int32) (y1_7 : Int32) (y2_39 : Int32) (y3_39 : Int32) (y4_39 : Int32) : Option (Int32) := lt (y4_39 + (1 : Int32)) fun v6 => r7 y2_39 y3_39 v6
noncomputable def f_X5_amountUpToLastUnlike_L7 (N : Nat) (A : Nat → Int32) (M : Nat → Int32) (n : Int32) (y1_7 : Int32) : Nat → Int32 → Int32 → Int32 → Option (Int32)
  | 0, _, _, _ => none
  | fu + 1, y2_7, y3_7, y4_7 => (if n ≤ y4_7 then some y3_7 else gd (¬ (y4_7 < 0 ∨ N ≤ y4_7.toNatClampNeg)) (lt ((y2_7 + (A y4_7.toNatClampNeg))) fun v3 => gd (¬ (y4_7 < 0 ∨ N ≤ y4_7.toNatClampNeg)) ((if (M y4_7.toNatClampNeg) = y1_7 then f_X5_amountUpToLastUnlike_J39 (f_X5_amountUpToLastUnlike_L7 N A M n y1_7 fu) N A M n y1_7 v3 y3_7 y4_7 else f_X5_amountUpToLastUnlike_J39 (f_X5_amountUpToLastUnlike_L7 N A M n y1_7 fu) N A M n y1_7 v3 v3 y4_7))))
noncomputable def f_X5_amountUpToLastUnlike (N : Nat) (x1 : Int32) (A : Nat → Int32) (M : Nat → Int32) (n : Int32) : Option (Int32) := f_X5_amountUpToLastUnlike_L7 N A M n x1 FU (0 : Int32) (0 : Int32) (0 : Int32)
noncomputable def f_X5_copyFrom (N : Nat) (N2 : Nat) (A : Nat → Int32) (M : Nat → Int32) (n : Int32) (t : Int32) (A2 : Nat → Int32) (M2 : Nat → Int32) (n2 : Int32) (t2 : Int32) : Option ((Nat → Int32) × (Nat → Int32) × Int32 × Int32) := lt ((if (nI N) < n2 then (nI N) else n2)) fun v1 => gd (¬ (0 : Int32) < 0 ∧ ¬ (0 : Int32) < 0 ∧ ¬ v1 < 0 ∧ (0 : Int32).toNatClampNeg + v1.toNatClampNeg ≤ N2 ∧ (0 : Int32).toNatClampNeg + v1.toNatClampNeg ≤ N) (lt (va_cpy A2 A (0 : Int32).toNatClampNeg (0 : Int32).toNatClampNeg v1.toNatClampNeg) fun Z3 => gd (¬ (0 : Int32) < 0 ∧ ¬ (0 : Int32) < 0 ∧ ¬ v1 < 0 ∧ (0 : Int32).toNatClampNeg + v1.toNatClampNeg ≤ N2 ∧ (0 : Int32).toNatClampNeg + v1.toNatClampNeg ≤ N) (lt (va_cpy M2 M (0 : Int32).toNatClampNeg (0 : Int32).toNatClampNeg v1.toNatClampNeg) fun Z5 => some (Z3, Z5, v1, t2)))
noncomputable def f_X5_letOut_J90 (N : Nat) (N2 : Nat) (y1_90 : Int32) (y4_90 : Int32) (y5_90 : Int32) (A_90 : Nat → Int32) (M_90 : Nat → Int32) (n_90 : Int32) (t_90 : Int32) (A2_90 : Nat → Int32) (M2_90 : Nat → Int32) (n2_90 : Int32) (t2_90 : Int32) : Option ((Nat → Int32) × (Nat → Int32) × Int32 × Int32 × (Nat → Int32) × (Nat → Int32) × Int32 × Int32) := lt ((t_90 - (y1_90 - y4_90))) fun v15 => (f_X5_dropFirst N y5_90 A_90 M_90 n_90).bind fun q16 => some (q16.1, q16.2.1, q16.2.2, v15, A2_90, M2_90, n2_90, t2_90)
noncomputable def f_X5_letOut_J84 (r9 : Int32 → Int32 → Int32 → (Nat → Int32) → (Nat → Int32) → Int32 → Int32 → (Nat → Int32) → (Nat → Int32) → Int32 → Int32 → Option ((Nat → Int32) × (Nat → Int32) × Int32 × Int32 × (Nat → Int32) × (Nat → Int32) × Int32 × Int32)) (N : Nat) (N2 : Nat) (y1_9 : Int32) (y2_9 : Int32) (y4_84 : Int32) (y5_84 : Int32) (y6_84 : Int32) (A_84 : Nat → Int32) (M_84 : Nat → Int32) (n_84 : Int32) (t_84 : Int32) (A2_84 : Nat → Int32) (M2_84 : Nat → Int32) (n2_84 : Int32) (t2_84 : Int32) : Option ((Nat → Int32) × (Nat → Int32) × Int32 × Int32 × (Nat → Int32) × (Nat → Int32) × Int32 × Int32) := lt (y6_84 + (1 : Int32)) fun v17 => r9 y4_84 y5_84 v17 A_84 M_84 n_84 t_84 A2_84 M2_84 n2_84 t2_84
noncomputable def f_X5_letOut_L9 (N : Nat) (N2 : Nat) (y1_9 : Int32) (y2_9 : Int32) : Nat → Int32 → Int32 → Int32 → (Nat → Int32) → (Nat → Int32) → Int32 → Int32 → (Nat → Int32) → (Nat → Int32) → Int32 → Int32 → Option ((Nat → Int32) × (Nat → Int32) × Int32 × Int32 × (Nat → Int32) × (Nat → Int32) × Int32 × Int32)
  | 0, _, _, _, _, _, _, _, _, _, _, _ => none
  | fu + 1, y4_9, y5_9, y6_9, A_9, M_9, n_9, t_9, A2_9, M2_9, n2_9, t2_9 => (if n_9 ≤ y6_9 then f_X5_letOut_J90 N N2 y1_9 y4_9 y5_9 A_9 M_9 n_9 t_9 A2_9 M2_9 n2_9 t2_9 else (if y4_9 ≤ 0 then f_X5_letOut_J90 N N2 y1_9 y4_9 y5_9 A_9 M_9 n_9 t_9 A2_9 M2_9 n2_9 t2_9 else gd (¬ (y6_9 < 0 ∨ N ≤ y6_9.toNatClampNeg)) (lt ((if (A_9 y6_9.toNatClampNeg) < y4_9 then (A_9 y6_9.toNatClampNeg) else y4_9)) fun v4 => gd (¬ (y6_9 < 0 ∨ N ≤ y6_9.toNatClampNeg)) ((f_X5_append N2 v4 ((M_9 y6_9.toNatClampNeg) ||| y2_9) A2_9 M2_9 n2_9 t2_9).bind fun q6 => gd (¬ (y6_9 < 0 ∨ N ≤ y6_9.toNatClampNeg)) (lt (((A_9 y6_9.toNatClampNeg) - v4)) fun v8 => gd (¬ (y6_9 < 0 ∨ N ≤ y6_9.toNatClampNeg)) (lt (upd A_9 y6_9.toNatClampNeg v8) fun Z10 => lt ((y4_9 - v4)) fun v11 => gd (¬ (y6_9 < 0 ∨ N ≤ y6_9.toNatClampNeg)) ((if (Z10 y6_9.toNatClampNeg) = 0 then lt (y5_9 + (1 : Int32)) fun v14 => f_X5_letOut_J84 (f_X5_letOut_L9 N N2 y1_9 y2_9 fu) N N2 y1_9 y2_9 v11 v14 y6_9 Z10 M_9 n_9 t_9 q6.1 q6.2.1 q6.2.2.1 q6.2.2.2 else f_X5_letOut_J84 (f_X5_letOut_L9 N N2 y1_9 y2_9 fu) N N2 y1_9 y2_9 v11 y5_9 y6_9 Z10 M_9 n_9 t_9 q6.1 q6.2.1 q6.2.2.1 q6.2.2.2))))))))
noncomputable def f_X5_letOut (N : Nat) (N2 : Nat) (x1 : Int32) (x2 : Int32) (A : Nat → Int32) (M : Nat → Int32) (n : Int32) (t : Int32) (A2 : Nat → Int32) (M2 : Nat → Int32) (n2 : Int32) (t2 : Int32) : Option ((Nat → Int32) × (Nat → Int32) × Int32 × Int32 × (Nat → Int32) × (Nat → Int32) × Int32 × Int32) := f_X5_letOut_L9 N N2 x1 x2 FU x1 (0 : Int32) (0 : Int32) A M n t A2 M2 n2 t2
noncomputable def f_X3_amount (N : Nat) (t : Int32) : Option (Int32) := some t
noncomputable def f_X3_isEmpty (N : Nat) (n : Int32) : Option (Int32) := (if (1 : Int32) ≤ n then some (0 : Int32) else some (1 : Int32))
noncomputable def f_X3_endsWith (N : Nat) (x1 : Int32) (M : Nat → Int32) (n : Int32) : Option (Int32) := (if n ≤ 0 then some (0 : Int32) else (f_X5_markAt N (n - (1 : Int32)) M n).bind fun q2 => (if q2 = x1 then some (1 : Int32) else some (0 : Int32)))
noncomputable def f_X3_hasRoomFor_J35 (N : Nat) (M : Nat → Int32) (n : Int32) (t : Int32) : Option (Int32) := some (1 : Int32)
noncomputable def f_X3_hasRoomFor (N : Nat) (x1 : Int32) (x2 : Int32) (M : Nat → Int32) (n : Int32) (t : Int32) : Option (Int32) := (if (4000 : Int32) < (t + x2) then some (0 : Int32) else (if n < (6 : Int32) then f_X3_hasRoomFor_J35 N M n t else (f_X3_endsWith N x1 M n).bind fun q3 => (if q3 = 0 then some (0 : Int32) else f_X3_hasRoomFor_J35 N M n t)))
noncomputable def f_X3_pourIn (N : Nat) (x1 : Int32) (x2 : Int32) (A : Nat → Int32) (M : Nat → Int32) (n : Int32) (t : Int32) : Option ((Nat → Int32) × (Nat → Int32) × Int32 × Int32) := (f_X3_endsWith N x1 M n).bind fun q1 => (if q1 = 0 then (f_X5_append N x2 x1 A M n t).bind fun q3 => some (q3.1, q3.2.1, q3.2.2.1, q3.2.2.2) else (f_X5_addToLast N x2 A n t).bind fun q4 => some (q4.1, M, n, q4.2))
noncomputable def f_X3_firstKind (N : Nat) (M : Nat → Int32) (n : Int32) : Option (Int32) := (f_X5_markAt N (0 : Int32) M n).bind fun q1 => some q1
noncomputable def f_X3_tell (N : Nat) (x1 : Int32) (x2 : Int32) (A : Nat → Int32) (M : Nat → Int32) (n : Int32) : Option (Int32) := (if x1 < 0 then some (-1000004 : Int32) else (if x1 < n then (if x2 = 0 then (f_X5_markAt N x1 M n).bind fun q5 => some q5 else (f_X5_amountAt N x1 A n).bind fun q4 => some q4) else some (-1000004 : Int32)))
noncomputable def f_X3_letOut (N : Nat) (N2 : Nat) (x1 : Int32) (x2 : Int32) (x3 : Int32) (A : Nat → Int32) (M : Nat → Int32) (n : Int32) (t : Int32) (A2 : Nat → Int32) (M2 : Nat → Int32) (n2 : Int32) (t2 : Int32) : Option ((Nat → Int32) × (Nat → Int32) × Int32 × Int32 × (Nat → Int32) × (Nat → Int32) × Int32 × Int32) := (f_X7_markOf (0 : Int32) x2 x3).bind fun q1 => (f_X5_letOut N N2 x1 q1 A M n t A2 M2 n2 t2).bind fun q2 => some (q2.1, q2.2.1, q2.2.2.1, q2.2.2.2.1, q2.2.2.2.2.1, q2.2.2.2.2.2.1, q2.2.2.2.2.2.2.1, q2.2.2.2.2.2.2.2)
noncomputable def f_X3_copyFrom (N : Nat) (N2 : Nat) (A : Nat → Int32) (M : Nat → Int32) (n : Int32) (t : Int32) (A2 : Nat → Int32) (M2 : Nat → Int32) (n2 : Int32) (t2 : Int32) : Option ((Nat → Int32) × (Nat → Int32) × Int32 × Int32) := (f_X5_copyFrom N N2 A M n t A2 M2 n2 t2).bind fun q1 => some (q1.1, q1.2.1, q1.2.2.1, q1.2.2.2)
noncomputable def f_X6_latestTime (sF : Nat → Int32) : Option (Int32) := some (sF (1 : Int32).toNatClampNeg)
noncomputable def f_X6_awayFrom (x1 : Int32) (x2 : Int32) (sF : Nat → Int32) : Option (Int32) := gd (¬ (((x2 * (8 : Int32)) + (1 : Int32)) < 0 ∨ 96 ≤ ((x2 * (8 : Int32)) + (1 : Int32)).toNatClampNeg)) (lt ((if 0 ≤ ((sF ((x2 * (8 : Int32)) + (1 : Int32)).toNatClampNeg) - x1) then ((sF ((x2 * (8 : Int32)) + (1 : Int32)).toNatClampNeg) - x1) else 0 - ((sF ((x2 * (8 : Int32)) + (1 : Int32)).toNatClampNeg) - x1))) fun v2 => some v2)
noncomputable def f_X6_placeOf_J52 (r13 : Int32 → Int32 → Option (Int32)) (sF : Nat → Int32) (sk : Int32) (y1_13 : Int32) (y2_13 : Int32) (y3_13 : Int32) (y4_52 : Int32) (y5_52 : Int32) : Option (Int32) := lt (y5_52 + (1 : Int32)) fun v8 => r13 y4_52 v8
noncomputable def f_X6_placeOf_J49 (r13 : Int32 → Int32 → Option (Int32)) (sF : Nat → Int32) (sk : Int32) (y1_13 : Int32) (y2_13 : Int32) (y3_13 : Int32) (y4_49 : Int32) (y5_49 : Int32) : Option (Int32) := lt (y4_49 + (1 : Int32)) fun v7 => f_X6_placeOf_J52 r13 sF sk y1_13 y2_13 y3_13 v7 y5_49
noncomputable def f_X6_placeOf_L13 (sF : Nat → Int32) (sk : Int32) (y1_13 : Int32) (y2_13 : Int32) (y3_13 : Int32) : Nat → Int32 → Int32 → Option (Int32)
  | 0, _, _ => none
  | fu + 1, y4_13, y5_13 => (if sk ≤ y5_13 then some y4_13 else (f_X6_awayFrom y2_13 y5_13 sF).bind fun q3 => (if q3 < y3_13 then f_X6_placeOf_J49 (f_X6_placeOf_L13 sF sk y1_13 y2_13 y3_13 fu) sF sk y1_13 y2_13 y3_13 y4_13 y5_13 else (if q3 = y3_13 then (if y1_13 ≤ y5_13 then f_X6_placeOf_J52 (f_X6_placeOf_L13 sF sk y1_13 y2_13 y3_13 fu) sF sk y1_13 y2_13 y3_13 y4_13 y5_13 else f_X6_placeOf_J49 (f_X6_placeOf_L13 sF sk y1_13 y2_13 y3_13 fu) sF sk y1_13 y2_13 y3_13 y4_13 y5_13) else f_X6_placeOf_J52 (f_X6_placeOf_L13 sF sk y1_13 y2_13 y3_13 fu) sF sk y1_13 y2_13 y3_13 y4_13 y5_13)))
noncomputable def f_X6_placeOf (x1 : Int32) (x2 : Int32) (sF : Nat → Int32) (sk : Int32) : Option (Int32) := (f_X6_awayFrom x2 x1 sF).bind fun q1 => f_X6_placeOf_L13 sF sk x1 x2 q1 FU (0 : Int32) (0 : Int32)
noncomputable def f_X6_tell (x1 : Int32) (x2 : Int32) (x3 : Int32) (sF : Nat → Int32) (sk : Int32) : Option (Int32) := (if x1 < 0 then some (-1000004 : Int32) else (if sk ≤ x1 then some (-1000004 : Int32) else (if x2 < 0 then some (-1000004 : Int32) else (if x2 < (8 : Int32) then (if x2 = (5 : Int32) then (f_X6_awayFrom x3 x1 sF).bind fun q7 => some q7 else gd (¬ (((x1 * (8 : Int32)) + x2) < 0 ∨ 96 ≤ ((x1 * (8 : Int32)) + x2).toNatClampNeg)) (some (sF ((x1 * (8 : Int32)) + x2).toNatClampNeg))) else some (-1000004 : Int32)))))
noncomputable def f_X6_numberAtPlace_L2 (sF : Nat → Int32) (sk : Int32) (y1_2 : Int32) (y2_2 : Int32) : Nat → Int32 → Option (Int32)
  | 0, _ => none
  | fu + 1, y3_2 => (if sk ≤ y3_2 then some (-1000004 : Int32) else (f_X6_placeOf y3_2 y2_2 sF sk).bind fun q2 => (if q2 = y1_2 then gd (¬ (((y3_2 * (8 : Int32)) + (0 : Int32)) < 0 ∨ 96 ≤ ((y3_2 * (8 : Int32)) + (0 : Int32)).toNatClampNeg)) (some (sF ((y3_2 * (8 : Int32)) + (0 : Int32)).toNatClampNeg)) else lt (y3_2 + (1 : Int32)) fun v4 => (f_X6_numberAtPlace_L2 sF sk y1_2 y2_2 fu) v4))
noncomputable def f_X6_numberAtPlace (x1 : Int32) (x2 : Int32) (sF : Nat → Int32) (sk : Int32) : Option (Int32) := f_X6_numberAtPlace_L2 sF sk x1 x2 FU (0 : Int32)
noncomputable def f_X6_add (x1 : Int32) (x2 : Int32) (x3 : Int32) (x4 : Int32) (x5 : Int32) (x6 : Int32) (sF : Nat → Int32) (sk : Int32) (sm : Int32) : Option ((Nat → Int32) × Int32 × Int32) := gd (¬ (0 : Int32) < 0 ∧ ¬ (8 : Int32) < 0 ∧ ¬ ((96 : Int32) - (8 : Int32)) < 0 ∧ (0 : Int32).toNatClampNeg + ((96 : Int32) - (8 : Int32)).toNatClampNeg ≤ 96 ∧ (8 : Int32).toNatClampNeg + ((96 : Int32) - (8 : Int32)).toNatClampNeg ≤ 96) (lt (va_cpy sF sF (0 : Int32).toNatClampNeg (8 : Int32).toNatClampNeg ((96 : Int32) - (8 : Int32)).toNatClampNeg) fun Z2 => lt (upd Z2 (0 : Int32).toNatClampNeg sm) fun Z3 => lt (upd Z3 (1 : Int32).toNatClampNeg x1) fun Z4 => lt (upd Z4 (2 : Int32).toNatClampNeg x2) fun Z5 => lt (upd Z5 (3 : Int32).toNatClampNeg x3) fun Z6 => lt (upd Z6 (4 : Int32).toNatClampNeg x4) fun Z7 => lt (upd Z7 (6 : Int32).toNatClampNeg x5) fun Z8 => lt (upd Z8 (7 : Int32).toNatClampNeg x6) fun Z9 => lt ((if (sk + (1 : Int32)) < (12 : Int32) then (sk + (1 : Int32)) else (12 : Int32))) fun v10 => lt ((sm + (1 : Int32))) fun v11 => some (Z9, v10, v11))
noncomputable def f_X6_copyFrom (sF : Nat → Int32) (sk : Int32) (sm : Int32) (sF2 : Nat → Int32) (sk2 : Int32) (sm2 : Int32) : Option ((Nat → Int32) × Int32 × Int32) := gd (¬ (0 : Int32) < 0 ∧ ¬ (0 : Int32) < 0 ∧ ¬ (96 : Int32) < 0 ∧ (0 : Int32).toNatClampNeg + (96 : Int32).toNatClampNeg ≤ 96 ∧ (0 : Int32).toNatClampNeg + (96 : Int32).toNatClampNeg ≤ 96) (lt (va_cpy sF2 sF (0 : Int32).toNatClampNeg (0 : Int32).toNatClampNeg (96 : Int32).toNatClampNeg) fun Z2 => some (Z2, sk2, sm2))
abbrev Gr : Type := (Nat → Int32) × (Nat → Int32) × Int32 × Int32 × Int32 × Int32 × Int32 × Int32 × Int32 × Int32 × Int32 × Int32 × (Nat → Int32) × (Nat → Int32) × Int32 × Int32 × (Nat → Int32) × (Nat → Int32) × Int32 × Int32 × (Nat → Int32) × Int32 × Int32 × (Nat → Int32) × Int32 × Int32 × Int32 × Int32 × Int32 × Int32
noncomputable def f_X1_hardnessOf (x1 : Int32) (st : Nat → Int32) : Option (Int32) := (if x1 = 0 then some (st (3 : Int32).toNatClampNeg) else some (st (4 : Int32).toNatClampNeg))
noncomputable def f_X1_flowOfMark (x1 : Int32) (st : Nat → Int32) : Option (Int32) := (f_X7_kindOfMark x1).bind fun q1 => (f_X1_hardnessOf q1 st).bind fun q2 => (f_X7_gapOfMark x1).bind fun q3 => (f_X7_flowOf q2 q3).bind fun q4 => some q4
noncomputable def f_X1_timeOfBasket_L18 (uA : Nat → Int32) (uM : Nat → Int32) (un : Int32) (ut : Int32) (st : Nat → Int32) : Nat → Int32 → Int32 → Option (Int32)
  | 0, _, _ => none
  | fu + 1, y1_18, y2_18 => (if un ≤ y2_18 then gd (¬ ut = 0) (some (y1_18 / ut)) else (f_X5_amountAt 400 y2_18 uA un).bind fun q4 => (f_X5_markAt 400 y2_18 uM un).bind fun q5 => (f_X1_flowOfMark q5 st).bind fun q6 => lt ((y1_18 + (q4 * q6))) fun v7 => lt (y2_18 + (1 : Int32)) fun v8 => (f_X1_timeOfBasket_L18 uA uM un ut st fu) v7 v8)
noncomputable def f_X1_timeOfBasket (uA : Nat → Int32) (uM : Nat → Int32) (un : Int32) (ut : Int32) (st : Nat → Int32) : Option (Int32) := (if (1 : Int32) ≤ ut then f_X1_timeOfBasket_L18 uA uM un ut st FU (0 : Int32) (0 : Int32) else some (-1000002 : Int32))
noncomputable def f_X1_passSeconds (x1 : Int32) (w0 : Int32) (w1 : Int32) (se : Int32) : Option (Int32 × Int32 × Int32) := lt ((((se + x1) / (10 : Int32)) - (se / (10 : Int32)))) fun v1 => (f_X0_cool v1 w0).bind fun q2 => (f_X0_cool v1 w1).bind fun q3 => lt ((se + x1)) fun v4 => some (q2, q3, v4)
noncomputable def f_X1_letPass (x1 : Int32) (w0 : Int32) (w1 : Int32) (se : Int32) : Option (Int32 × Int32 × Int32 × Int32) := (if x1 < (1 : Int32) then some ((-1000001 : Int32), w0, w1, se) else (if x1 ≤ (999 : Int32) then lt ((w0 + w1)) fun v3 => (f_X1_passSeconds x1 w0 w1 se).bind fun q4 => some (((v3 - q4.1) - q4.2.1), q4.1, q4.2.1, q4.2.2) else some ((-1000001 : Int32), w0, w1, se)))
noncomputable def f_X1_fillIn (x1 : Int32) (x2 : Int32) (pA : Nat → Int32) (pM : Nat → Int32) (pn : Int32) (pt : Int32) (fi : Int32) : Option (Int32 × (Nat → Int32) × (Nat → Int32) × Int32 × Int32 × Int32) := (f_X7_isZeroOrOne x1).bind fun q1 => (if q1 = 0 then some ((-1000001 : Int32), pA, pM, pn, pt, fi) else (if x2 < (1 : Int32) then some ((-1000001 : Int32), pA, pM, pn, pt, fi) else (if x2 ≤ (999 : Int32) then (f_X3_hasRoomFor 6 x1 x2 pM pn pt).bind fun q5 => (if q5 = 0 then some ((-1000003 : Int32), pA, pM, pn, pt, fi) else (f_X3_pourIn 6 x1 x2 pA pM pn pt).bind fun q7 => lt ((fi + x2)) fun v8 => (f_X3_amount 6 q7.2.2.2).bind fun q9 => some (q9, q7.1, q7.2.1, q7.2.2.1, q7.2.2.2, v8)) else some ((-1000001 : Int32), pA, pM, pn, pt, fi))))
noncomputable def f_X1_turnDial (x1 : Int32) (x2 : Int32) (d0 : Int32) (d1 : Int32) : Option (Int32 × Int32 × Int32) := (f_X7_isZeroOrOne x1).bind fun q1 => (if q1 = 0 then some ((-1000001 : Int32), d0, d1) else (if x2 < (1 : Int32) then some ((-1000001 : Int32), d0, d1) else (if x2 ≤ (60 : Int32) then (if x1 = 0 then some (d0, x2, d1) else some (d1, d0, x2)) else some ((-1000001 : Int32), d0, d1))))
noncomputable def f_X1_emptyChute (qn : Int32) (qt : Int32) (pu : Int32) : Option (Int32 × Int32 × Int32 × Int32) := (f_X5_clear 106 qn qt).bind fun q1 => lt ((pu + qt)) fun v2 => some (qt, q1.1, q1.2, v2)
noncomputable def f_X1_grindBy (x1 : Int32) (x2 : Int32) (pA : Nat → Int32) (pM : Nat → Int32) (pn : Int32) (pt : Int32) (d0 : Int32) (w0 : Int32) (g0 : Int32) (d1 : Int32) (w1 : Int32) (g1 : Int32) (qA : Nat → Int32) (qM : Nat → Int32) (qn : Int32) (qt : Int32) (uA : Nat → Int32) (uM : Nat → Int32) (un : Int32) (ut : Int32) (st : Nat → Int32) (se : Int32) (gr : Int32) : Option (Int32 × (Nat → Int32) × (Nat → Int32) × Int32 × Int32 × Int32 × Int32 × Int32 × Int32 × (Nat → Int32) × (Nat → Int32) × Int32 × Int32 × (Nat → Int32) × (Nat → Int32) × Int32 × Int32 × Int32 × Int32) := (f_X7_isZeroOrOne x1).bind fun q1 => (if q1 = 0 then some ((-1000001 : Int32), pA, pM, pn, pt, w0, g0, w1, g1, qA, qM, qn, qt, uA, uM, un, ut, se, gr) else (if x2 < (1 : Int32) then some ((-1000001 : Int32), pA, pM, pn, pt, w0, g0, w1, g1, qA, qM, qn, qt, uA, uM, un, ut, se, gr) else (if x2 ≤ (400 : Int32) then (f_X3_amount 6 pt).bind fun q5 => (if x2 ≤ q5 then lt ((if (0 : Int32) < ((qt + x2) - (st (2 : Int32).toNatClampNeg)) then ((qt + x2) - (st (2 : Int32).toNatClampNeg)) else (0 : Int32))) fun v7 => (if (ut + v7) ≤ (400 : Int32) then (if x1 = 0 then (f_X0_gap d0 w0).bind fun q10 => (f_X3_letOut 6 106 x2 x1 q10 pA pM pn pt qA qM qn qt).bind fun q11 => (f_X0_warmByGrinding x2 w0 g0).bind fun q12 => (f_X5_letOut 106 400 v7 (0 : Int32) q11.2.2.2.2.1 q11.2.2.2.2.2.1 q11.2.2.2.2.2.2.1 q11.2.2.2.2.2.2.2 uA uM un ut).bind fun q13 => lt ((gr + x2)) fun v14 => (f_X1_passSeconds ((x2 + (9 : Int32)) / (10 : Int32)) q12.1 w1 se).bind fun q15 => some (v7, q11.1, q11.2.1, q11.2.2.1, q11.2.2.2.1, q15.1, q12.2, q15.2.1, g1, q13.1, q13.2.1, q13.2.2.1, q13.2.2.2.1, q13.2.2.2.2.1, q13.2.2.2.2.2.1, q13.2.2.2.2.2.2.1, q13.2.2.2.2.2.2.2, q15.2.2, v14) else (f_X0_gap d1 w1).bind fun q16 => (f_X3_letOut 6 106 x2 x1 q16 pA pM pn pt qA qM qn qt).bind fun q17 => (f_X0_warmByGrinding x2 w1 g1).bind fun q18 => (f_X5_letOut 106 400 v7 (0 : Int32) q17.2.2.2.2.1 q17.2.2.2.2.2.1 q17.2.2.2.2.2.2.1 q17.2.2.2.2.2.2.2 uA uM un ut).bind fun q19 => lt ((gr + x2)) fun v20 => (f_X1_passSeconds ((x2 + (9 : Int32)) / (10 : Int32)) w0 q18.1 se).bind fun q21 => some (v7, q17.1, q17.2.1, q17.2.2.1, q17.2.2.2.1, q21.1, g0, q21.2.1, q18.2, q19.1, q19.2.1, q19.2.2.1, q19.2.2.2.1, q19.2.2.2.2.1, q19.2.2.2.2.2.1, q19.2.2.2.2.2.2.1, q19.2.2.2.2.2.2.2, q21.2.2, v20)) else some ((-1000003 : Int32), pA, pM, pn, pt, w0, g0, w1, g1, qA, qM, qn, qt, uA, uM, un, ut, se, gr)) else some ((-1000002 : Int32), pA, pM, pn, pt, w0, g0, w1, g1, qA, qM, qn, qt, uA, uM, un, ut, se, gr)) else some ((-1000001 : Int32), pA, pM, pn, pt, w0, g0, w1, g1, qA, qM, qn, qt, uA, uM, un, ut, se, gr))))
noncomputable def f_X1_judge_0 (x1 : Int32) (d0 : Int32) (k0 : Int32) (st : Nat → Int32) (nr : Int32) : Option (Int32 × Int32 × Int32) := lt ((if 0 ≤ (x1 - (st (0 : Int32).toNatClampNeg)) then (x1 - (st (0 : Int32).toNatClampNeg)) else 0 - (x1 - (st (0 : Int32).toNatClampNeg)))) fun v1 => (if (st (1 : Int32).toNatClampNeg) < v1 then (if (st (5 : Int32).toNatClampNeg) = (1 : Int32) then (f_X0_correctBy x1 (st (0 : Int32).toNatClampNeg) d0 k0).bind fun q4 => some (q4.1, q4.2, nr) else some (d0, k0, nr)) else lt ((nr + (1 : Int32))) fun v5 => some (d0, k0, v5))
noncomputable def f_X1_judge_1 (x1 : Int32) (d1 : Int32) (k1 : Int32) (st : Nat → Int32) (nr : Int32) : Option (Int32 × Int32 × Int32) := lt ((if 0 ≤ (x1 - (st (0 : Int32).toNatClampNeg)) then (x1 - (st (0 : Int32).toNatClampNeg)) else 0 - (x1 - (st (0 : Int32).toNatClampNeg)))) fun v1 => (if (st (1 : Int32).toNatClampNeg) < v1 then (if (st (5 : Int32).toNatClampNeg) = (1 : Int32) then (f_X0_correctBy x1 (st (0 : Int32).toNatClampNeg) d1 k1).bind fun q4 => some (q4.1, q4.2, nr) else some (d1, k1, nr)) else lt ((nr + (1 : Int32))) fun v5 => some (d1, k1, v5))
noncomputable def f_X1_makeShot_J44 (uA : Nat → Int32) (uM : Nat → Int32) (st : Nat → Int32) (y1_44 : Int32) (y2_44 : Int32) (z0_44 : Int32) (d0_44 : Int32) (w0_44 : Int32) (k0_44 : Int32) (d1_44 : Int32) (w1_44 : Int32) (k1_44 : Int32) (un_44 : Int32) (ut_44 : Int32) (sF_44 : Nat → Int32) (sk_44 : Int32) (sm_44 : Int32) (se_44 : Int32) (br_44 : Int32) (nr_44 : Int32) : Option (Int32 × Int32 × Int32 × Int32 × Int32 × Int32 × Int32 × Int32 × Int32 × (Nat → Int32) × Int32 × Int32 × Int32 × Int32 × Int32) := (f_X6_add y1_44 ut_44 y2_44 z0_44 se_44 un_44 sF_44 sk_44 sm_44).bind fun q7 => lt ((br_44 + ut_44)) fun v8 => (f_X5_clear 400 un_44 ut_44).bind fun q9 => (if y2_44 = 0 then (f_X1_judge_0 y1_44 d0_44 k0_44 st nr_44).bind fun q11 => (f_X1_passSeconds (y1_44 / (10 : Int32)) w0_44 w1_44 se_44).bind fun q12 => some (y1_44, q11.1, q12.1, q11.2.1, d1_44, q12.2.1, k1_44, q9.1, q9.2, q7.1, q7.2.1, q7.2.2, q12.2.2, v8, q11.2.2) else (f_X1_judge_1 y1_44 d1_44 k1_44 st nr_44).bind fun q13 => (f_X1_passSeconds (y1_44 / (10 : Int32)) w0_44 w1_44 se_44).bind fun q14 => some (y1_44, d0_44, q14.1, k0_44, q13.1, q14.2.1, q13.2.1, q9.1, q9.2, q7.1, q7.2.1, q7.2.2, q14.2.2, v8, q13.2.2))
noncomputable def f_X1_makeShot_J27 (uA : Nat → Int32) (uM : Nat → Int32) (st : Nat → Int32) (y1_27 : Int32) (z0_27 : Int32) (d0_27 : Int32) (w0_27 : Int32) (k0_27 : Int32) (d1_27 : Int32) (w1_27 : Int32) (k1_27 : Int32) (un_27 : Int32) (ut_27 : Int32) (sF_27 : Nat → Int32) (sk_27 : Int32) (sm_27 : Int32) (se_27 : Int32) (br_27 : Int32) (nr_27 : Int32) : Option (Int32 × Int32 × Int32 × Int32 × Int32 × Int32 × Int32 × Int32 × Int32 × (Nat → Int32) × Int32 × Int32 × Int32 × Int32 × Int32) := (f_X5_isMostly 400 (1 : Int32) uA uM un_27 ut_27).bind fun q5 => (if q5 = 0 then f_X1_makeShot_J44 uA uM st y1_27 z0_27 (0 : Int32) d0_27 w0_27 k0_27 d1_27 w1_27 k1_27 un_27 ut_27 sF_27 sk_27 sm_27 se_27 br_27 nr_27 else f_X1_makeShot_J44 uA uM st y1_27 z0_27 (1 : Int32) d0_27 w0_27 k0_27 d1_27 w1_27 k1_27 un_27 ut_27 sF_27 sk_27 sm_27 se_27 br_27 nr_27)
noncomputable def f_X1_makeShot (d0 : Int32) (w0 : Int32) (k0 : Int32) (d1 : Int32) (w1 : Int32) (k1 : Int32) (uA : Nat → Int32) (uM : Nat → Int32) (un : Int32) (ut : Int32) (sF : Nat → Int32) (sk : Int32) (sm : Int32) (st : Nat → Int32) (se : Int32) (br : Int32) (nr : Int32) : Option (Int32 × Int32 × Int32 × Int32 × Int32 × Int32 × Int32 × Int32 × Int32 × (Nat → Int32) × Int32 × Int32 × Int32 × Int32 × Int32) := (f_X1_timeOfBasket uA uM un ut st).bind fun q1 => (if 0 ≤ q1 then (f_X5_isMostly 400 (2 : Int32) uA uM un ut).bind fun q3 => (if q3 = 0 then f_X1_makeShot_J27 uA uM st q1 (0 : Int32) d0 w0 k0 d1 w1 k1 un ut sF sk sm se br nr else f_X1_makeShot_J27 uA uM st q1 (1 : Int32) d0 w0 k0 d1 w1 k1 un ut sF sk sm se br nr) else some (q1, d0, w0, k0, d1, w1, k1, un, ut, sF, sk, sm, se, br, nr))
noncomputable def f_X1_correctByLatest (x1 : Int32) (d0 : Int32) (k0 : Int32) (d1 : Int32) (k1 : Int32) (sF : Nat → Int32) (sk : Int32) (st : Nat → Int32) : Option (Int32 × Int32 × Int32 × Int32 × Int32) := (f_X7_isZeroOrOne x1).bind fun q1 => (if q1 = 0 then some ((-1000001 : Int32), d0, k0, d1, k1) else (if (1 : Int32) ≤ sk then (if x1 = 0 then (f_X6_latestTime sF).bind fun q5 => (f_X0_correctBy q5 (st (0 : Int32).toNatClampNeg) d0 k0).bind fun q6 => some (q6.1, q6.1, q6.2, d1, k1) else (f_X6_latestTime sF).bind fun q7 => (f_X0_correctBy q7 (st (0 : Int32).toNatClampNeg) d1 k1).bind fun q8 => some (q8.1, d0, k0, q8.1, q8.2)) else some ((-1000002 : Int32), d0, k0, d1, k1)))
noncomputable def f_X1_changeSetting (x1 : Int32) (x2 : Int32) (st : Nat → Int32) : Option (Int32 × (Nat → Int32)) := (if x1 < 0 then some ((-1000001 : Int32), st) else (if (6 : Int32) ≤ x1 then some ((-1000001 : Int32), st) else gd (¬ (x1 < 0 ∨ 6 ≤ x1.toNatClampNeg)) ((if x2 < (tbL x1.toNatClampNeg) then some ((-1000001 : Int32), st) else gd (¬ (x1 < 0 ∨ 6 ≤ x1.toNatClampNeg)) ((if x2 ≤ (tbM x1.toNatClampNeg) then gd (¬ (x1 < 0 ∨ 6 ≤ x1.toNatClampNeg)) (lt ((st x1.toNatClampNeg)) fun v8 => gd (¬ (x1 < 0 ∨ 6 ≤ x1.toNatClampNeg)) (lt (upd st x1.toNatClampNeg x2) fun Z10 => some (v8, Z10))) else some ((-1000001 : Int32), st)))))))
noncomputable def f_X1_tellSetting (x1 : Int32) (st : Nat → Int32) : Option (Int32) := (if x1 < (20 : Int32) then some (-1000001 : Int32) else (if x1 < ((20 : Int32) + (6 : Int32)) then gd (¬ ((x1 - (20 : Int32)) < 0 ∨ 6 ≤ (x1 - (20 : Int32)).toNatClampNeg)) (some (st (x1 - (20 : Int32)).toNatClampNeg)) else some (-1000001 : Int32)))
noncomputable def f_X1_tell (x1 : Int32) (pt : Int32) (qt : Int32) (ut : Int32) (sm : Int32) (st : Nat → Int32) (se : Int32) (fi : Int32) (gr : Int32) (br : Int32) (pu : Int32) (nr : Int32) : Option (Int32) := (if x1 = 0 then some se else (if x1 = 1 then some fi else (if x1 = 2 then some gr else (if x1 = 3 then some br else (if x1 = 4 then some pu else (if x1 = 5 then (f_X3_amount 6 pt).bind fun q7 => some q7 else (if x1 = 6 then some qt else (if x1 = 7 then some ut else (if x1 = 8 then some sm else (if x1 = 9 then some nr else (f_X1_tellSetting x1 st).bind fun q12 => some q12))))))))))
noncomputable def f_X1_tellPortion_q (x2 : Int32) (x3 : Int32) (qA : Nat → Int32) (qM : Nat → Int32) (qn : Int32) (st : Nat → Int32) : Option (Int32) := (if x2 < qn then (f_X5_markAt 106 x2 qM qn).bind fun q2 => (if x3 = 0 then (f_X5_amountAt 106 x2 qA qn).bind fun q4 => some q4 else (if x3 = 1 then (f_X7_kindOfMark q2).bind fun q6 => some q6 else (if x3 = 2 then (f_X7_burrOfMark q2).bind fun q8 => some q8 else (if x3 = 3 then (f_X7_gapOfMark q2).bind fun q10 => some q10 else (f_X1_flowOfMark q2 st).bind fun q11 => some q11)))) else some (-1000004 : Int32))
noncomputable def f_X1_tellPortion_u (x2 : Int32) (x3 : Int32) (uA : Nat → Int32) (uM : Nat → Int32) (un : Int32) (st : Nat → Int32) : Option (Int32) := (if x2 < un then (f_X5_markAt 400 x2 uM un).bind fun q2 => (if x3 = 0 then (f_X5_amountAt 400 x2 uA un).bind fun q4 => some q4 else (if x3 = 1 then (f_X7_kindOfMark q2).bind fun q6 => some q6 else (if x3 = 2 then (f_X7_burrOfMark q2).bind fun q8 => some q8 else (if x3 = 3 then (f_X7_gapOfMark q2).bind fun q10 => some q10 else (f_X1_flowOfMark q2 st).bind fun q11 => some q11)))) else some (-1000004 : Int32))
noncomputable def f_X1_awayAtDial_0 (x1 : Int32) (x3 : Int32) (w0 : Int32) (st : Nat → Int32) : Option (Int32) := (f_X1_hardnessOf x3 st).bind fun q1 => (f_X0_gapAt x1 w0).bind fun q2 => (f_X7_flowOf q1 q2).bind fun q3 => lt ((if 0 ≤ (q3 - (st (0 : Int32).toNatClampNeg)) then (q3 - (st (0 : Int32).toNatClampNeg)) else 0 - (q3 - (st (0 : Int32).toNatClampNeg)))) fun v4 => some v4
noncomputable def f_X1_awayAtDial_1 (x1 : Int32) (x3 : Int32) (w1 : Int32) (st : Nat → Int32) : Option (Int32) := (f_X1_hardnessOf x3 st).bind fun q1 => (f_X0_gapAt x1 w1).bind fun q2 => (f_X7_flowOf q1 q2).bind fun q3 => lt ((if 0 ≤ (q3 - (st (0 : Int32).toNatClampNeg)) then (q3 - (st (0 : Int32).toNatClampNeg)) else 0 - (q3 - (st (0 : Int32).toNatClampNeg)))) fun v4 => some v4
noncomputable def f_X1_nearestDial_0_J33 (r5 : Int32 → Int32 → Option (Int32)) (w0 : Int32) (st : Nat → Int32) (y2_5 : Int32) (y3_33 : Int32) (y4_33 : Int32) : Option (Int32) := lt (y4_33 + (1 : Int32)) fun v5 => r5 y3_33 v5
noncomputable def f_X1_nearestDial_0_L5 (w0 : Int32) (st : Nat → Int32) (y2_5 : Int32) : Nat → Int32 → Int32 → Option (Int32)
  | 0, _, _ => none
  | fu + 1, y3_5, y4_5 => (if (60 : Int32) < y4_5 then some y3_5 else (f_X1_awayAtDial_0 y4_5 y2_5 w0 st).bind fun q2 => (f_X1_awayAtDial_0 y3_5 y2_5 w0 st).bind fun q3 => (if q3 ≤ q2 then f_X1_nearestDial_0_J33 (f_X1_nearestDial_0_L5 w0 st y2_5 fu) w0 st y2_5 y3_5 y4_5 else f_X1_nearestDial_0_J33 (f_X1_nearestDial_0_L5 w0 st y2_5 fu) w0 st y2_5 y4_5 y4_5))
noncomputable def f_X1_nearestDial_0 (x2 : Int32) (w0 : Int32) (st : Nat → Int32) : Option (Int32) := f_X1_nearestDial_0_L5 w0 st x2 FU (1 : Int32) (2 : Int32)
noncomputable def f_X1_nearestDial_1_J33 (r5 : Int32 → Int32 → Option (Int32)) (w1 : Int32) (st : Nat → Int32) (y2_5 : Int32) (y3_33 : Int32) (y4_33 : Int32) : Option (Int32) := lt (y4_33 + (1 : Int32)) fun v5 => r5 y3_33 v5
noncomputable def f_X1_nearestDial_1_L5 (w1 : Int32) (st : Nat → Int32) (y2_5 : Int32) : Nat → Int32 → Int32 → Option (Int32)
  | 0, _, _ => none
  | fu + 1, y3_5, y4_5 => (if (60 : Int32) < y4_5 then some y3_5 else (f_X1_awayAtDial_1 y4_5 y2_5 w1 st).bind fun q2 => (f_X1_awayAtDial_1 y3_5 y2_5 w1 st).bind fun q3 => (if q3 ≤ q2 then f_X1_nearestDial_1_J33 (f_X1_nearestDial_1_L5 w1 st y2_5 fu) w1 st y2_5 y3_5 y4_5 else f_X1_nearestDial_1_J33 (f_X1_nearestDial_1_L5 w1 st y2_5 fu) w1 st y2_5 y4_5 y4_5))
noncomputable def f_X1_nearestDial_1 (x2 : Int32) (w1 : Int32) (st : Nat → Int32) : Option (Int32) := f_X1_nearestDial_1_L5 w1 st x2 FU (1 : Int32) (2 : Int32)
noncomputable def f_X1_secondsToCool_0 (x2 : Int32) (w0 : Int32) (se : Int32) : Option (Int32) := (f_X0_coolingsTo x2 w0).bind fun q1 => (if (1 : Int32) ≤ q1 then some ((q1 * (10 : Int32)) - (se - se / (10 : Int32) * (10 : Int32))) else some (0 : Int32))
noncomputable def f_X1_secondsToCool_1 (x2 : Int32) (w1 : Int32) (se : Int32) : Option (Int32) := (f_X0_coolingsTo x2 w1).bind fun q1 => (if (1 : Int32) ≤ q1 then some ((q1 * (10 : Int32)) - (se - se / (10 : Int32) * (10 : Int32))) else some (0 : Int32))
noncomputable def f_X1_staleFor (x1 : Int32) (pM : Nat → Int32) (pn : Int32) (d0 : Int32) (w0 : Int32) (d1 : Int32) (w1 : Int32) (qA : Nat → Int32) (qM : Nat → Int32) (qn : Int32) : Option (Int32) := (f_X3_isEmpty 6 pn).bind fun q1 => (if q1 = 0 then (f_X3_firstKind 6 pM pn).bind fun q3 => (if x1 = 0 then (f_X0_gap d0 w0).bind fun q5 => (f_X7_markOf q3 x1 q5).bind fun q6 => (f_X5_amountUpToLastUnlike 106 q6 qA qM qn).bind fun q7 => some q7 else (f_X0_gap d1 w1).bind fun q8 => (f_X7_markOf q3 x1 q8).bind fun q9 => (f_X5_amountUpToLastUnlike 106 q9 qA qM qn).bind fun q10 => some q10) else some (-1000002 : Int32))
noncomputable def f_X1_copyFrom (pA : Nat → Int32) (pM : Nat → Int32) (pn : Int32) (pt : Int32) (d0 : Int32) (w0 : Int32) (g0 : Int32) (k0 : Int32) (d1 : Int32) (w1 : Int32) (g1 : Int32) (k1 : Int32) (qA : Nat → Int32) (qM : Nat → Int32) (qn : Int32) (qt : Int32) (uA : Nat → Int32) (uM : Nat → Int32) (un : Int32) (ut : Int32) (sF : Nat → Int32) (sk : Int32) (sm : Int32) (st : Nat → Int32) (se : Int32) (fi : Int32) (gr : Int32) (br : Int32) (pu : Int32) (nr : Int32) (opA : Nat → Int32) (opM : Nat → Int32) (opn : Int32) (opt : Int32) (od0 : Int32) (ow0 : Int32) (og0 : Int32) (ok0 : Int32) (od1 : Int32) (ow1 : Int32) (og1 : Int32) (ok1 : Int32) (oqA : Nat → Int32) (oqM : Nat → Int32) (oqn : Int32) (oqt : Int32) (ouA : Nat → Int32) (ouM : Nat → Int32) (oun : Int32) (out : Int32) (osF : Nat → Int32) (osk : Int32) (osm : Int32) (ost : Nat → Int32) (ose : Int32) (ofi : Int32) (ogr : Int32) (obr : Int32) (opu : Int32) (onr : Int32) : Option ((Nat → Int32) × (Nat → Int32) × Int32 × Int32 × Int32 × Int32 × Int32 × Int32 × Int32 × Int32 × Int32 × Int32 × (Nat → Int32) × (Nat → Int32) × Int32 × Int32 × (Nat → Int32) × (Nat → Int32) × Int32 × Int32 × (Nat → Int32) × Int32 × Int32 × (Nat → Int32) × Int32 × Int32 × Int32 × Int32 × Int32 × Int32) := (f_X3_copyFrom 6 6 pA pM pn pt opA opM opn opt).bind fun q1 => (f_X0_copyFrom d0 w0 g0 k0 od0 ow0 og0 ok0).bind fun q2 => (f_X0_copyFrom d1 w1 g1 k1 od1 ow1 og1 ok1).bind fun q3 => (f_X5_copyFrom 106 106 qA qM qn qt oqA oqM oqn oqt).bind fun q4 => (f_X5_copyFrom 400 400 uA uM un ut ouA ouM oun out).bind fun q5 => (f_X6_copyFrom sF sk sm osF osk osm).bind fun q6 => gd (¬ (0 : Int32) < 0 ∧ ¬ (0 : Int32) < 0 ∧ ¬ (6 : Int32) < 0 ∧ (0 : Int32).toNatClampNeg + (6 : Int32).toNatClampNeg ≤ 6 ∧ (0 : Int32).toNatClampNeg + (6 : Int32).toNatClampNeg ≤ 6) (lt (va_cpy ost st (0 : Int32).toNatClampNeg (0 : Int32).toNatClampNeg (6 : Int32).toNatClampNeg) fun Z8 => some (q1.1, q1.2.1, q1.2.2.1, q1.2.2.2, q2.1, q2.2.1, q2.2.2.1, q2.2.2.2, q3.1, q3.2.1, q3.2.2.1, q3.2.2.2, q4.1, q4.2.1, q4.2.2.1, q4.2.2.2, q5.1, q5.2.1, q5.2.2.1, q5.2.2.2, q6.1, q6.2.1, q6.2.2, Z8, ose, ofi, ogr, obr, opu, onr))
noncomputable def F_X1_fillIn (x1 : Int32) (x2 : Int32) (g : Gr) : Option (Int32 × Gr) := (f_X1_fillIn x1 x2 g.1 g.2.1 g.2.2.1 g.2.2.2.1 g.2.2.2.2.2.2.2.2.2.2.2.2.2.2.2.2.2.2.2.2.2.2.2.2.2.1).bind fun q => some (q.1, (q.2.1, q.2.2.1, q.2.2.2.1, q.2.2.2.2.1, g.2.2.2.2.1, g.2.2.2.2.2.1, g.2.2.2.2.2.2.1, g.2.2.2.2.2.2.2.1, g.2.2.2.2.2.2.2.2.1, g.2.2.2.2.2.2.2.2.2.1, g.2.2.2.2.2.2.2.2.2.2.1, g.2.2.2.2.2.2.2.2.2.2.2.1, g.2.2.2.2.2.2.2.2.2.2.2.2.1, g.2.2.2.2.2.2.2.2.2.2.2.2.2.1, g.2.2.2.2.2.2.2.2.2.2.2.2.2.2.1, g.2.2.2.2.2.2.2.2.2.2.2.2.2.2.2.1, g.2.2.2.2.2.2.2.2.2.2.2.2.2.2.2.2.1, g.2.2.2.2.2.2.2.2.2.2.2.2.2.2.2.2.2.1, g.2.2.2.2.2.2.2.2.2.2.2.2.2.2.2.2.2.2.1, g.2.2.2.2.2.2.2.2.2.2.2.2.2.2.2.2.2.2.2.1, g.2.2.2.2.2.2.2.2.2.2.2.2.2.2.2.2.2.2.2.2.1, g.2.2.2.2.2.2.2.2.2.2.2.2.2.2.2.2.2.2.2.2.2.1, g.2.2.2.2.2.2.2.2.2.2.2.2.2.2.2.2.2.2.2.2.2.2.1, g.2.2.2.2.2.2.2.2.2.2.2.2.2.2.2.2.2.2.2.2.2.2.2.1, g.2.2.2.2.2.2.2.2.2.2.2.2.2.2.2.2.2.2.2.2.2.2.2.2.1, q.2.2.2.2.2, g.2.2.2.2.2.2.2.2.2.2.2.2.2.2.2.2.2.2.2.2.2.2.2.2.2.2.1, g.2.2.2.2.2.2.2.2.2.2.2.2.2.2.2.2.2.2.2.2.2.2.2.2.2.2.2.1, g.2.2.2.2.2.2.2.2.2.2.2.2.2.2.2.2.2.2.2.2.2.2.2.2.2.2.2.2.1, g.2.2.2.2.2.2.2.2.2.2.2.2.2.2.2.2.2.2.2.2.2.2.2.2.2.2.2.2.2))
noncomputable def F_X1_grindBy (x1 : Int32) (x2 : Int32) (g : Gr) : Option (Int32 × Gr) := (f_X1_grindBy x1 x2 g.1 g.2.1 g.2.2.1 g.2.2.2.1 g.2.2.2.2.1 g.2.2.2.2.2.1 g.2.2.2.2.2.2.1 g.2.2.2.2.2.2.2.2.1 g.2.2.2.2.2.2.2.2.2.1 g.2.2.2.2.2.2.2.2.2.2.1 g.2.2.2.2.2.2.2.2.2.2.2.2.1 g.2.2.2.2.2.2.2.2.2.2.2.2.2.1 g.2.2.2.2.2.2.2.2.2.2.2.2.2.2.1 g.2.2.2.2.2.2.2.2.2.2.2.2.2.2.2.1 g.2.2.2.2.2.2.2.2.2.2.2.2.2.2.2.2.1 g.2.2.2.2.2.2.2.2.2.2.2.2.2.2.2.2.2.1 g.2.2.2.2.2.2.2.2.2.2.2.2.2.2.2.2.2.2.1 g.2.2.2.2.2.2.2.2.2.2.2.2.2.2.2.2.2.2.2.1 g.2.2.2.2.2.2.2.2.2.2.2.2.2.2.2.2.2.2.2.2.2.2.2.1 g.2.2.2.2.2.2.2.2.2.2.2.2.2.2.2.2.2.2.2.2.2.2.2.2.1 g.2.2.2.2.2.2.2.2.2.2.2.2.2.2.2.2.2.2.2.2.2.2.2.2.2.2.1).bind fun q => some (q.1, (q.2.1, q.2.2.1, q.2.2.2.1, q.2.2.2.2.1, g.2.2.2.2.1, q.2.2.2.2.2.1, q.2.2.2.2.2.2.1, g.2.2.2.2.2.2.2.1, g.2.2.2.2.2.2.2.2.1, q.2.2.2.2.2.2.2.1, q.2.2.2.2.2.2.2.2.1, g.2.2.2.2.2.2.2.2.2.2.2.1, q.2.2.2.2.2.2.2.2.2.1, q.2.2.2.2.2.2.2.2.2.2.1, q.2.2.2.2.2.2.2.2.2.2.2.1, q.2.2.2.2.2.2.2.2.2.2.2.2.1, q.2.2.2.2.2.2.2.2.2.2.2.2.2.1, q.2.2.2.2.2.2.2.2.2.2.2.2.2.2.1, q.2.2.2.2.2.2.2.2.2.2.2.2.2.2.2.1, q.2.2.2.2.2.2.2.2.2.2.2.2.2.2.2.2.1, g.2.2.2.2.2.2.2.2.2.2.2.2.2.2.2.2.2.2.2.2.1, g.2.2.2.2.2.2.2.2.2.2.2.2.2.2.2.2.2.2.2.2.2.1, g.2.2.2.2.2.2.2.2.2.2.2.2.2.2.2.2.2.2.2.2.2.2.1, g.2.2.2.2.2.2.2.2.2.2.2.2.2.2.2.2.2.2.2.2.2.2.2.1, q.2.2.2.2.2.2.2.2.2.2.2.2.2.2.2.2.2.1, g.2.2.2.2.2.2.2.2.2.2.2.2.2.2.2.2.2.2.2.2.2.2.2.2.2.1, q.2.2.2.2.2.2.2.2.2.2.2.2.2.2.2.2.2.2, g.2.2.2.2.2.2.2.2.2.2.2.2.2.2.2.2.2.2.2.2.2.2.2.2.2.2.2.1, g.2.2.2.2.2.2.2.2.2.2.2.2.2.2.2.2.2.2.2.2.2.2.2.2.2.2.2.2.1, g.2.2.2.2.2.2.2.2.2.2.2.2.2.2.2.2.2.2.2.2.2.2.2.2.2.2.2.2.2))
noncomputable def F_X1_turnDial (x1 : Int32) (x2 : Int32) (g : Gr) : Option (Int32 × Gr) := (f_X1_turnDial x1 x2 g.2.2.2.2.1 g.2.2.2.2.2.2.2.2.1).bind fun q => some (q.1, (g.1, g.2.1, g.2.2.1, g.2.2.2.1, q.2.1, g.2.2.2.2.2.1, g.2.2.2.2.2.2.1, g.2.2.2.2.2.2.2.1, q.2.2, g.2.2.2.2.2.2.2.2.2.1, g.2.2.2.2.2.2.2.2.2.2.1, g.2.2.2.2.2.2.2.2.2.2.2.1, g.2.2.2.2.2.2.2.2.2.2.2.2.1, g.2.2.2.2.2.2.2.2.2.2.2.2.2.1, g.2.2.2.2.2.2.2.2.2.2.2.2.2.2.1, g.2.2.2.2.2.2.2.2.2.2.2.2.2.2.2.1, g.2.2.2.2.2.2.2.2.2.2.2.2.2.2.2.2.1, g.2.2.2.2.2.2.2.2.2.2.2.2.2.2.2.2.2.1, g.2.2.2.2.2.2.2.2.2.2.2.2.2.2.2.2.2.2.1, g.2.2.2.2.2.2.2.2.2.2.2.2.2.2.2.2.2.2.2.1, g.2.2.2.2.2.2.2.2.2.2.2.2.2.2.2.2.2.2.2.2.1, g.2.2.2.2.2.2.2.2.2.2.2.2.2.2.2.2.2.2.2.2.2.1, g.2.2.2.2.2.2.2.2.2.2.2.2.2.2.2.2.2.2.2.2.2.2.1, g.2.2.2.2.2.2.2.2.2.2.2.2.2.2.2.2.2.2.2.2.2.2.2.1, g.2.2.2.2.2.2.2.2.2.2.2.2.2.2.2.2.2.2.2.2.2.2.2.2.1, g.2.2.2.2.2.2.2.2.2.2.2.2.2.2.2.2.2.2.2.2.2.2.2.2.2.1, g.2.2.2.2.2.2.2.2.2.2.2.2.2.2.2.2.2.2.2.2.2.2.2.2.2.2.1, g.2.2.2.2.2.2.2.2.2.2.2.2.2.2.2.2.2.2.2.2.2.2.2.2.2.2.2.1, g.2.2.2.2.2.2.2.2.2.2.2.2.2.2.2.2.2.2.2.2.2.2.2.2.2.2.2.2.1, g.2.2.2.2.2.2.2.2.2.2.2.2.2.2.2.2.2.2.2.2.2.2.2.2.2.2.2.2.2))
noncomputable def F_X1_letPass (x1 : Int32) (g : Gr) : Option (Int32 × Gr) := (f_X1_letPass x1 g.2.2.2.2.2.1 g.2.2.2.2.2.2.2.2.2.1 g.2.2.2.2.2.2.2.2.2.2.2.2.2.2.2.2.2.2.2.2.2.2.2.2.1).bind fun q => some (q.1, (g.1, g.2.1, g.2.2.1, g.2.2.2.1, g.2.2.2.2.1, q.2.1, g.2.2.2.2.2.2.1, g.2.2.2.2.2.2.2.1, g.2.2.2.2.2.2.2.2.1, q.2.2.1, g.2.2.2.2.2.2.2.2.2.2.1, g.2.2.2.2.2.2.2.2.2.2.2.1, g.2.2.2.2.2.2.2.2.2.2.2.2.1, g.2.2.2.2.2.2.2.2.2.2.2.2.2.1, g.2.2.2.2.2.2.2.2.2.2.2.2.2.2.1, g.2.2.2.2.2.2.2.2.2.2.2.2.2.2.2.1, g.2.2.2.2.2.2.2.2.2.2.2.2.2.2.2.2.1, g.2.2.2.2.2.2.2.2.2.2.2.2.2.2.2.2.2.1, g.2.2.2.2.2.2.2.2.2.2.2.2.2.2.2.2.2.2.1, g.2.2.2.2.2.2.2.2.2.2.2.2.2.2.2.2.2.2.2.1, g.2.2.2.2.2.2.2.2.2.2.2.2.2.2.2.2.2.2.2.2.1, g.2.2.2.2.2.2.2.2.2.2.2.2.2.2.2.2.2.2.2.2.2.1, g.2.2.2.2.2.2.2.2.2.2.2.2.2.2.2.2.2.2.2.2.2.2.1, g.2.2.2.2.2.2.2.2.2.2.2.2.2.2.2.2.2.2.2.2.2.2.2.1, q.2.2.2, g.2.2.2.2.2.2.2.2.2.2.2.2.2.2.2.2.2.2.2.2.2.2.2.2.2.1, g.2.2.2.2.2.2.2.2.2.2.2.2.2.2.2.2.2.2.2.2.2.2.2.2.2.2.1, g.2.2.2.2.2.2.2.2.2.2.2.2.2.2.2.2.2.2.2.2.2.2.2.2.2.2.2.1, g.2.2.2.2.2.2.2.2.2.2.2.2.2.2.2.2.2.2.2.2.2.2.2.2.2.2.2.2.1, g.2.2.2.2.2.2.2.2.2.2.2.2.2.2.2.2.2.2.2.2.2.2.2.2.2.2.2.2.2))
noncomputable def F_X1_makeShot (g : Gr) : Option (Int32 × Gr) := (f_X1_makeShot g.2.2.2.2.1 g.2.2.2.2.2.1 g.2.2.2.2.2.2.2.1 g.2.2.2.2.2.2.2.2.1 g.2.2.2.2.2.2.2.2.2.1 g.2.2.2.2.2.2.2.2.2.2.2.1 g.2.2.2.2.2.2.2.2.2.2.2.2.2.2.2.2.1 g.2.2.2.2.2.2.2.2.2.2.2.2.2.2.2.2.2.1 g.2.2.2.2.2.2.2.2.2.2.2.2.2.2.2.2.2.2.1 g.2.2.2.2.2.2.2.2.2.2.2.2.2.2.2.2.2.2.2.1 g.2.2.2.2.2.2.2.2.2.2.2.2.2.2.2.2.2.2.2.2.1 g.2.2.2.2.2.2.2.2.2.2.2.2.2.2.2.2.2.2.2.2.2.1 g.2.2.2.2.2.2.2.2.2.2.2.2.2.2.2.2.2.2.2.2.2.2.1 g.2.2.2.2.2.2.2.2.2.2.2.2.2.2.2.2.2.2.2.2.2.2.2.1 g.2.2.2.2.2.2.2.2.2.2.2.2.2.2.2.2.2.2.2.2.2.2.2.2.1 g.2.2.2.2.2.2.2.2.2.2.2.2.2.2.2.2.2.2.2.2.2.2.2.2.2.2.2.1 g.2.2.2.2.2.2.2.2.2.2.2.2.2.2.2.2.2.2.2.2.2.2.2.2.2.2.2.2.2).bind fun q => some (q.1, (g.1, g.2.1, g.2.2.1, g.2.2.2.1, q.2.1, q.2.2.1, g.2.2.2.2.2.2.1, q.2.2.2.1, q.2.2.2.2.1, q.2.2.2.2.2.1, g.2.2.2.2.2.2.2.2.2.2.1, q.2.2.2.2.2.2.1, g.2.2.2.2.2.2.2.2.2.2.2.2.1, g.2.2.2.2.2.2.2.2.2.2.2.2.2.1, g.2.2.2.2.2.2.2.2.2.2.2.2.2.2.1, g.2.2.2.2.2.2.2.2.2.2.2.2.2.2.2.1, g.2.2.2.2.2.2.2.2.2.2.2.2.2.2.2.2.1, g.2.2.2.2.2.2.2.2.2.2.2.2.2.2.2.2.2.1, q.2.2.2.2.2.2.2.1, q.2.2.2.2.2.2.2.2.1, q.2.2.2.2.2.2.2.2.2.1, q.2.2.2.2.2.2.2.2.2.2.1, q.2.2.2.2.2.2.2.2.2.2.2.1, g.2.2.2.2.2.2.2.2.2.2.2.2.2.2.2.2.2.2.2.2.2.2.2.1, q.2.2.2.2.2.2.2.2.2.2.2.2.1, g.2.2.2.2.2.2.2.2.2.2.2.2.2.2.2.2.2.2.2.2.2.2.2.2.2.1, g.2.2.2.2.2.2.2.2.2.2.2.2.2.2.2.2.2.2.2.2.2.2.2.2.2.2.1, q.2.2.2.2.2.2.2.2.2.2.2.2.2.1, g.2.2.2.2.2.2.2.2.2.2.2.2.2.2.2.2.2.2.2.2.2.2.2.2.2.2.2.2.1, q.2.2.2.2.2.2.2.2.2.2.2.2.2.2))
noncomputable def F_X1_emptyChute (g : Gr) : Option (Int32 × Gr) := (f_X1_emptyChute g.2.2.2.2.2.2.2.2.2.2.2.2.2.2.1 g.2.2.2.2.2.2.2.2.2.2.2.2.2.2.2.1 g.2.2.2.2.2.2.2.2.2.2.2.2.2.2.2.2.2.2.2.2.2.2.2.2.2.2.2.2.1).bind fun q => some (q.1, (g.1, g.2.1, g.2.2.1, g.2.2.2.1, g.2.2.2.2.1, g.2.2.2.2.2.1, g.2.2.2.2.2.2.1, g.2.2.2.2.2.2.2.1, g.2.2.2.2.2.2.2.2.1, g.2.2.2.2.2.2.2.2.2.1, g.2.2.2.2.2.2.2.2.2.2.1, g.2.2.2.2.2.2.2.2.2.2.2.1, g.2.2.2.2.2.2.2.2.2.2.2.2.1, g.2.2.2.2.2.2.2.2.2.2.2.2.2.1, q.2.1, q.2.2.1, g.2.2.2.2.2.2.2.2.2.2.2.2.2.2.2.2.1, g.2.2.2.2.2.2.2.2.2.2.2.2.2.2.2.2.2.1, g.2.2.2.2.2.2.2.2.2.2.2.2.2.2.2.2.2.2.1, g.2.2.2.2.2.2.2.2.2.2.2.2.2.2.2.2.2.2.2.1, g.2.2.2.2.2.2.2.2.2.2.2.2.2.2.2.2.2.2.2.2.1, g.2.2.2.2.2.2.2.2.2.2.2.2.2.2.2.2.2.2.2.2.2.1, g.2.2.2.2.2.2.2.2.2.2.2.2.2.2.2.2.2.2.2.2.2.2.1, g.2.2.2.2.2.2.2.2.2.2.2.2.2.2.2.2.2.2.2.2.2.2.2.1, g.2.2.2.2.2.2.2.2.2.2.2.2.2.2.2.2.2.2.2.2.2.2.2.2.1, g.2.2.2.2.2.2.2.2.2.2.2.2.2.2.2.2.2.2.2.2.2.2.2.2.2.1, g.2.2.2.2.2.2.2.2.2.2.2.2.2.2.2.2.2.2.2.2.2.2.2.2.2.2.1, g.2.2.2.2.2.2.2.2.2.2.2.2.2.2.2.2.2.2.2.2.2.2.2.2.2.2.2.1, q.2.2.2, g.2.2.2.2.2.2.2.2.2.2.2.2.2.2.2.2.2.2.2.2.2.2.2.2.2.2.2.2.2))
noncomputable def F_X1_correctByLatest (x1 : Int32) (g : Gr) : Option (Int32 × Gr) := (f_X1_correctByLatest x1 g.2.2.2.2.1 g.2.2.2.2.2.2.2.1 g.2.2.2.2.2.2.2.2.1 g.2.2.2.2.2.2.2.2.2.2.2.1 g.2.2.2.2.2.2.2.2.2.2.2.2.2.2.2.2.2.2.2.2.1 g.2.2.2.2.2.2.2.2.2.2.2.2.2.2.2.2.2.2.2.2.2.1 g.2.2.2.2.2.2.2.2.2.2.2.2.2.2.2.2.2.2.2.2.2.2.2.1).bind fun q => some (q.1, (g.1, g.2.1, g.2.2.1, g.2.2.2.1, q.2.1, g.2.2.2.2.2.1, g.2.2.2.2.2.2.1, q.2.2.1, q.2.2.2.1, g.2.2.2.2.2.2.2.2.2.1, g.2.2.2.2.2.2.2.2.2.2.1, q.2.2.2.2, g.2.2.2.2.2.2.2.2.2.2.2.2.1, g.2.2.2.2.2.2.2.2.2.2.2.2.2.1, g.2.2.2.2.2.2.2.2.2.2.2.2.2.2.1, g.2.2.2.2.2.2.2.2.2.2.2.2.2.2.2.1, g.2.2.2.2.2.2.2.2.2.2.2.2.2.2.2.2.1, g.2.2.2.2.2.2.2.2.2.2.2.2.2.2.2.2.2.1, g.2.2.2.2.2.2.2.2.2.2.2.2.2.2.2.2.2.2.1, g.2.2.2.2.2.2.2.2.2.2.2.2.2.2.2.2.2.2.2.1, g.2.2.2.2.2.2.2.2.2.2.2.2.2.2.2.2.2.2.2.2.1, g.2.2.2.2.2.2.2.2.2.2.2.2.2.2.2.2.2.2.2.2.2.1, g.2.2.2.2.2.2.2.2.2.2.2.2.2.2.2.2.2.2.2.2.2.2.1, g.2.2.2.2.2.2.2.2.2.2.2.2.2.2.2.2.2.2.2.2.2.2.2.1, g.2.2.2.2.2.2.2.2.2.2.2.2.2.2.2.2.2.2.2.2.2.2.2.2.1, g.2.2.2.2.2.2.2.2.2.2.2.2.2.2.2.2.2.2.2.2.2.2.2.2.2.1, g.2.2.2.2.2.2.2.2.2.2.2.2.2.2.2.2.2.2.2.2.2.2.2.2.2.2.1, g.2.2.2.2.2.2.2.2.2.2.2.2.2.2.2.2.2.2.2.2.2.2.2.2.2.2.2.1, g.2.2.2.2.2.2.2.2.2.2.2.2.2.2.2.2.2.2.2.2.2.2.2.2.2.2.2.2.1, g.2.2.2.2.2.2.2.2.2.2.2.2.2.2.2.2.2.2.2.2.2.2.2.2.2.2.2.2.2))
noncomputable def F_X1_changeSetting (x1 : Int32) (x2 : Int32) (g : Gr) : Option (Int32 × Gr) := (f_X1_changeSetting x1 x2 g.2.2.2.2.2.2.2.2.2.2.2.2.2.2.2.2.2.2.2.2.2.2.2.1).bind fun q => some (q.1, (g.1, g.2.1, g.2.2.1, g.2.2.2.1, g.2.2.2.2.1, g.2.2.2.2.2.1, g.2.2.2.2.2.2.1, g.2.2.2.2.2.2.2.1, g.2.2.2.2.2.2.2.2.1, g.2.2.2.2.2.2.2.2.2.1, g.2.2.2.2.2.2.2.2.2.2.1, g.2.2.2.2.2.2.2.2.2.2.2.1, g.2.2.2.2.2.2.2.2.2.2.2.2.1, g.2.2.2.2.2.2.2.2.2.2.2.2.2.1, g.2.2.2.2.2.2.2.2.2.2.2.2.2.2.1, g.2.2.2.2.2.2.2.2.2.2.2.2.2.2.2.1, g.2.2.2.2.2.2.2.2.2.2.2.2.2.2.2.2.1, g.2.2.2.2.2.2.2.2.2.2.2.2.2.2.2.2.2.1, g.2.2.2.2.2.2.2.2.2.2.2.2.2.2.2.2.2.2.1, g.2.2.2.2.2.2.2.2.2.2.2.2.2.2.2.2.2.2.2.1, g.2.2.2.2.2.2.2.2.2.2.2.2.2.2.2.2.2.2.2.2.1, g.2.2.2.2.2.2.2.2.2.2.2.2.2.2.2.2.2.2.2.2.2.1, g.2.2.2.2.2.2.2.2.2.2.2.2.2.2.2.2.2.2.2.2.2.2.1, q.2, g.2.2.2.2.2.2.2.2.2.2.2.2.2.2.2.2.2.2.2.2.2.2.2.2.1, g.2.2.2.2.2.2.2.2.2.2.2.2.2.2.2.2.2.2.2.2.2.2.2.2.2.1, g.2.2.2.2.2.2.2.2.2.2.2.2.2.2.2.2.2.2.2.2.2.2.2.2.2.2.1, g.2.2.2.2.2.2.2.2.2.2.2.2.2.2.2.2.2.2.2.2.2.2.2.2.2.2.2.1, g.2.2.2.2.2.2.2.2.2.2.2.2.2.2.2.2.2.2.2.2.2.2.2.2.2.2.2.2.1, g.2.2.2.2.2.2.2.2.2.2.2.2.2.2.2.2.2.2.2.2.2.2.2.2.2.2.2.2.2))
noncomputable def F_X1_timeOfBasket (g : Gr) : Option (Int32) := f_X1_timeOfBasket g.2.2.2.2.2.2.2.2.2.2.2.2.2.2.2.2.1 g.2.2.2.2.2.2.2.2.2.2.2.2.2.2.2.2.2.1 g.2.2.2.2.2.2.2.2.2.2.2.2.2.2.2.2.2.2.1 g.2.2.2.2.2.2.2.2.2.2.2.2.2.2.2.2.2.2.2.1 g.2.2.2.2.2.2.2.2.2.2.2.2.2.2.2.2.2.2.2.2.2.2.2.1
noncomputable def F_X1_copyFrom (g : Gr) (go : Gr) : Option (Gr) := (f_X1_copyFrom g.1 g.2.1 g.2.2.1 g.2.2.2.1 g.2.2.2.2.1 g.2.2.2.2.2.1 g.2.2.2.2.2.2.1 g.2.2.2.2.2.2.2.1 g.2.2.2.2.2.2.2.2.1 g.2.2.2.2.2.2.2.2.2.1 g.2.2.2.2.2.2.2.2.2.2.1 g.2.2.2.2.2.2.2.2.2.2.2.1 g.2.2.2.2.2.2.2.2.2.2.2.2.1 g.2.2.2.2.2.2.2.2.2.2.2.2.2.1 g.2.2.2.2.2.2.2.2.2.2.2.2.2.2.1 g.2.2.2.2.2.2.2.2.2.2.2.2.2.2.2.1 g.2.2.2.2.2.2.2.2.2.2.2.2.2.2.2.2.1 g.2.2.2.2.2.2.2.2.2.2.2.2.2.2.2.2.2.1 g.2.2.2.2.2.2.2.2.2.2.2.2.2.2.2.2.2.2.1 g.2.2.2.2.2.2.2.2.2.2.2.2.2.2.2.2.2.2.2.1 g.2.2.2.2.2.2.2.2.2.2.2.2.2.2.2.2.2.2.2.2.1 g.2.2.2.2.2.2.2.2.2.2.2.2.2.2.2.2.2.2.2.2.2.1 g.2.2.2.2.2.2.2.2.2.2.2.2.2.2.2.2.2.2.2.2.2.2.1 g.2.2.2.2.2.2.2.2.2.2.2.2.2.2.2.2.2.2.2.2.2.2.2.1 g.2.2.2.2.2.2.2.2.2.2.2.2.2.2.2.2.2.2.2.2.2.2.2.2.1 g.2.2.2.2.2.2.2.2.2.2.2.2.2.2.2.2.2.2.2.2.2.2.2.2.2.1 g.2.2.2.2.2.2.2.2.2.2.2.2.2.2.2.2.2.2.2.2.2.2.2.2.2.2.1 g.2.2.2.2.2.2.2.2.2.2.2.2.2.2.2.2.2.2.2.2.2.2.2.2.2.2.2.1 g.2.2.2.2.2.2.2.2.2.2.2.2.2.2.2.2.2.2.2.2.2.2.2.2.2.2.2.2.1 g.2.2.2.2.2.2.2.2.2.2.2.2.2.2.2.2.2.2.2.2.2.2.2.2.2.2.2.2.2 go.1 go.2.1 go.2.2.1 go.2.2.2.1 go.2.2.2.2.1 go.2.2.2.2.2.1 go.2.2.2.2.2.2.1 go.2.2.2.2.2.2.2.1 go.2.2.2.2.2.2.2.2.1 go.2.2.2.2.2.2.2.2.2.1 go.2.2.2.2.2.2.2.2.2.2.1 go.2.2.2.2.2.2.2.2.2.2.2.1 go.2.2.2.2.2.2.2.2.2.2.2.2.1 go.2.2.2.2.2.2.2.2.2.2.2.2.2.1 go.2.2.2.2.2.2.2.2.2.2.2.2.2.2.1 go.2.2.2.2.2.2.2.2.2.2.2.2.2.2.2.1 go.2.2.2.2.2.2.2.2.2.2.2.2.2.2.2.2.1 go.2.2.2.2.2.2.2.2.2.2.2.2.2.2.2.2.2.1 go.2.2.2.2.2.2.2.2.2.2.2.2.2.2.2.2.2.2.1 go.2.2.2.2.2.2.2.2.2.2.2.2.2.2.2.2.2.2.2.1 go.2.2.2.2.2.2.2.2.2.2.2.2.2.2.2.2.2.2.2.2.1 go.2.2.2.2.2.2.2.2.2.2.2.2.2.2.2.2.2.2.2.2.2.1 go.2.2.2.2.2.2.2.2.2.2.2.2.2.2.2.2.2.2.2.2.2.2.1 go.2.2.2.2.2.2.2.2.2.2.2.2.2.2.2.2.2.2.2.2.2.2.2.1 go.2.2.2.2.2.2.2.2.2.2.2.2.2.2.2.2.2.2.2.2.2.2.2.2.1 go.2.2.2.2.2.2.2.2.2.2.2.2.2.2.2.2.2.2.2.2.2.2.2.2.2.1 go.2.2.2.2.2.2.2.2.2.2.2.2.2.2.2.2.2.2.2.2.2.2.2.2.2.2.1 go.2.2.2.2.2.2.2.2.2.2.2.2.2.2.2.2.2.2.2.2.2.2.2.2.2.2.2.1 go.2.2.2.2.2.2.2.2.2.2.2.2.2.2.2.2.2.2.2.2.2.2.2.2.2.2.2.2.1 go.2.2.2.2.2.2.2.2.2.2.2.2.2.2.2.2.2.2.2.2.2.2.2.2.2.2.2.2.2).bind fun q => some (q.1, q.2.1, q.2.2.1, q.2.2.2.1, q.2.2.2.2.1, q.2.2.2.2.2.1, q.2.2.2.2.2.2.1, q.2.2.2.2.2.2.2.1, q.2.2.2.2.2.2.2.2.1, q.2.2.2.2.2.2.2.2.2.1, q.2.2.2.2.2.2.2.2.2.2.1, q.2.2.2.2.2.2.2.2.2.2.2.1, q.2.2.2.2.2.2.2.2.2.2.2.2.1, q.2.2.2.2.2.2.2.2.2.2.2.2.2.1, q.2.2.2.2.2.2.2.2.2.2.2.2.2.2.1, q.2.2.2.2.2.2.2.2.2.2.2.2.2.2.2.1, q.2.2.2.2.2.2.2.2.2.2.2.2.2.2.2.2.1, q.2.2.2.2.2.2.2.2.2.2.2.2.2.2.2.2.2.1, q.2.2.2.2.2.2.2.2.2.2.2.2.2.2.2.2.2.2.1, q.2.2.2.2.2.2.2.2.2.2.2.2.2.2.2.2.2.2.2.1, q.2.2.2.2.2.2.2.2.2.2.2.2.2.2.2.2.2.2.2.2.1, q.2.2.2.2.2.2.2.2.2.2.2.2.2.2.2.2.2.2.2.2.2.1, q.2.2.2.2.2.2.2.2.2.2.2.2.2.2.2.2.2.2.2.2.2.2.1, q.2.2.2.2.2.2.2.2.2.2.2.2.2.2.2.2.2.2.2.2.2.2.2.1, q.2.2.2.2.2.2.2.2.2.2.2.2.2.2.2.2.2.2.2.2.2.2.2.2.1, q.2.2.2.2.2.2.2.2.2.2.2.2.2.2.2.2.2.2.2.2.2.2.2.2.2.1, q.2.2.2.2.2.2.2.2.2.2.2.2.2.2.2.2.2.2.2.2.2.2.2.2.2.2.1, q.2.2.2.2.2.2.2.2.2.2.2.2.2.2.2.2.2.2.2.2.2.2.2.2.2.2.2.1, q.2.2.2.2.2.2.2.2.2.2.2.2.2.2.2.2.2.2.2.2.2.2.2.2.2.2.2.2.1, q.2.2.2.2.2.2.2.2.2.2.2.2.2.2.2.2.2.2.2.2.2.2.2.2.2.2.2.2.2)
noncomputable def f_X4_append (x1 : Int32) (sg : Nat → Int32) (oL : Int32) : Option (Int32 × (Nat → Int32) × Int32) := (if oL < 0 then some ((-1000003 : Int32), sg, oL) else (if oL < (60 : Int32) then gd (¬ (oL < 0 ∨ 60 ≤ oL.toNatClampNeg)) (lt (upd sg oL.toNatClampNeg (vp_nar .char x1)) fun Z4 => lt ((oL + (1 : Int32))) fun v5 => some (v5, Z4, v5)) else some ((-1000003 : Int32), sg, oL)))
noncomputable def f_X4_hasFault (oR : Int32) : Option (Int32) := (if oR = 0 then some (0 : Int32) else some (1 : Int32))
noncomputable def f_X4_tellFault (x1 : Int32) (oP : Int32) (oR : Int32) (oU : Int32) : Option (Int32) := (f_X4_hasFault oR).bind fun q1 => (if q1 = 0 then some (-1000004 : Int32) else (if x1 = 0 then some oP else (if x1 = 1 then some oR else some oU)))
noncomputable def f_X4_signHere_J27 (sg : Nat → Int32) (oL : Int32) (oA : Int32) : Option (Int32) := some (0 : Int32)
noncomputable def f_X4_signHere (sg : Nat → Int32) (oL : Int32) (oA : Int32) : Option (Int32) := (if oA < 0 then f_X4_signHere_J27 sg oL oA else (if oL ≤ oA then f_X4_signHere_J27 sg oL oA else (if oA < (60 : Int32) then gd (¬ (oA < 0 ∨ 60 ≤ oA.toNatClampNeg)) (lt ((sg oA.toNatClampNeg)) fun v5 => gd (¬ v5 < 0 ∧ v5.toNatClampNeg < 65536) (some v5)) else f_X4_signHere_J27 sg oL oA)))
noncomputable def f_X4_passSign (x1 : Int32) (sg : Nat → Int32) (oL : Int32) (oA : Int32) : Option (Int32 × Int32) := (f_X4_signHere sg oL oA).bind fun q1 => (if q1 = x1 then lt ((oA + (1 : Int32))) fun v3 => some ((1 : Int32), v3) else some ((0 : Int32), oA))
noncomputable def f_X4_isDigit (x0 : Int32) : Option (Int32) := (if x0 < (48 : Int32) then some (0 : Int32) else (if (57 : Int32) < x0 then some (0 : Int32) else some (1 : Int32)))
noncomputable def f_X4_readNumber_L4 (sg : Nat → Int32) (oL : Int32) : Nat → Int32 → Int32 → Int32 → Option (Int32 × Int32)
  | 0, _, _, _ => none
  | fu + 1, y1_4, y2_4, oA_4 => (if (3 : Int32) ≤ y2_4 then some (y1_4, oA_4) else (f_X4_signHere sg oL oA_4).bind fun q2 => (f_X4_isDigit q2).bind fun q3 => (if q3 = 0 then some (y1_4, oA_4) else lt ((if (0 : Int32) < y1_4 then y1_4 else (0 : Int32))) fun v5 => (f_X4_signHere sg oL oA_4).bind fun q6 => lt (((v5 * (10 : Int32)) + (q6 - (48 : Int32)))) fun v7 => lt ((oA_4 + (1 : Int32))) fun v8 => lt (y2_4 + (1 : Int32)) fun v9 => (f_X4_readNumber_L4 sg oL fu) v7 v9 v8))
noncomputable def f_X4_readNumber (sg : Nat → Int32) (oL : Int32) (oA : Int32) : Option (Int32 × Int32) := f_X4_readNumber_L4 sg oL FU (-1 : Int32) (0 : Int32) oA
noncomputable def f_X4_readFirstNumber (sg : Nat → Int32) (oL : Int32) (oA : Int32) (oF : Int32) : Option (Int32 × Int32 × Int32) := (f_X4_readNumber sg oL oA).bind fun q1 => (if q1.1 = (-1 : Int32) then some ((0 : Int32), q1.2, q1.1) else some ((1 : Int32), q1.2, q1.1))
noncomputable def f_X4_readSecondNumber (sg : Nat → Int32) (oL : Int32) (oA : Int32) (oS : Int32) : Option (Int32 × Int32 × Int32) := (f_X4_readNumber sg oL oA).bind fun q1 => (if q1.1 = (-1 : Int32) then some ((0 : Int32), q1.2, q1.1) else some ((1 : Int32), q1.2, q1.1))
noncomputable def f_X4_readOrder (sg : Nat → Int32) (oL : Int32) (oA : Int32) (oC : Int32) (oF : Int32) (oS : Int32) : Option (Int32 × Int32 × Int32 × Int32 × Int32) := (f_X4_signHere sg oL oA).bind fun q1 => gd (¬ q1 < 0 ∧ q1.toNatClampNeg < 65536) ((if q1 = 98 then lt ((oA + (1 : Int32))) fun v4 => (f_X4_readFirstNumber sg oL v4 oF).bind fun q5 => (if q5.1 = 0 then some ((0 : Int32), q5.2.1, q1, q5.2.2, oS) else (f_X4_passSign (44 : Int32) sg oL q5.2.1).bind fun q7 => (if q7.1 = 0 then some ((0 : Int32), q7.2, q1, q5.2.2, oS) else (f_X4_readSecondNumber sg oL q7.2 oS).bind fun q9 => (if q9.1 = 0 then some ((0 : Int32), q9.2.1, q1, q5.2.2, q9.2.2) else (f_X4_passSign (59 : Int32) sg oL q9.2.1).bind fun q11 => (if q11.1 = 0 then some ((0 : Int32), q11.2, q1, q5.2.2, q9.2.2) else some ((1 : Int32), q11.2, q1, q5.2.2, q9.2.2))))) else (if q1 = 102 then lt ((oA + (1 : Int32))) fun v14 => (f_X4_readFirstNumber sg oL v14 oF).bind fun q15 => (if q15.1 = 0 then some ((0 : Int32), q15.2.1, q1, q15.2.2, oS) else (f_X4_passSign (44 : Int32) sg oL q15.2.1).bind fun q17 => (if q17.1 = 0 then some ((0 : Int32), q17.2, q1, q15.2.2, oS) else (f_X4_readSecondNumber sg oL q17.2 oS).bind fun q19 => (if q19.1 = 0 then some ((0 : Int32), q19.2.1, q1, q15.2.2, q19.2.2) else (f_X4_passSign (59 : Int32) sg oL q19.2.1).bind fun q21 => (if q21.1 = 0 then some ((0 : Int32), q21.2, q1, q15.2.2, q19.2.2) else some ((1 : Int32), q21.2, q1, q15.2.2, q19.2.2))))) else (if q1 = 103 then lt ((oA + (1 : Int32))) fun v24 => (f_X4_readFirstNumber sg oL v24 oF).bind fun q25 => (if q25.1 = 0 then some ((0 : Int32), q25.2.1, q1, q25.2.2, oS) else (f_X4_passSign (44 : Int32) sg oL q25.2.1).bind fun q27 => (if q27.1 = 0 then some ((0 : Int32), q27.2, q1, q25.2.2, oS) else (f_X4_readSecondNumber sg oL q27.2 oS).bind fun q29 => (if q29.1 = 0 then some ((0 : Int32), q29.2.1, q1, q25.2.2, q29.2.2) else (f_X4_passSign (59 : Int32) sg oL q29.2.1).bind fun q31 => (if q31.1 = 0 then some ((0 : Int32), q31.2, q1, q25.2.2, q29.2.2) else some ((1 : Int32), q31.2, q1, q25.2.2, q29.2.2))))) else (if q1 = 112 then lt ((oA + (1 : Int32))) fun v34 => (f_X4_passSign (59 : Int32) sg oL v34).bind fun q35 => gd (q35.1 = 0 ∨ q35.1 = 1) (some (q35.1, q35.2, q1, oF, oS)) else (if q1 = 115 then lt ((oA + (1 : Int32))) fun v38 => (f_X4_passSign (59 : Int32) sg oL v38).bind fun q39 => gd (q39.1 = 0 ∨ q39.1 = 1) (some (q39.1, q39.2, q1, oF, oS)) else (if q1 = 119 then lt ((oA + (1 : Int32))) fun v42 => (f_X4_readFirstNumber sg oL v42 oF).bind fun q43 => (if q43.1 = 0 then some ((0 : Int32), q43.2.1, q1, q43.2.2, oS) else (f_X4_passSign (59 : Int32) sg oL q43.2.1).bind fun q45 => (if q45.1 = 0 then some ((0 : Int32), q45.2, q1, q43.2.2, oS) else some ((1 : Int32), q45.2, q1, q43.2.2, oS))) else some ((0 : Int32), oA, q1, oF, oS))))))))
noncomputable def f_X4_blame (x1 : Int32) (x2 : Int32) (x3 : Int32) (oP : Int32) (oR : Int32) (oU : Int32) : Option (Int32 × Int32 × Int32) := some (x1, x2, x3)
noncomputable def f_X4_doOrderOn (oC : Int32) (oF : Int32) (oS : Int32) (g : Gr) : Option (Int32 × Gr) := (if oC = 98 then (F_X1_turnDial oF oS g).bind fun q2 => some (q2.1, q2.2) else (if oC = 102 then (F_X1_fillIn oF oS g).bind fun q4 => some (q4.1, q4.2) else (if oC = 103 then (F_X1_grindBy oF oS g).bind fun q6 => some (q6.1, q6.2) else (if oC = 115 then (F_X1_makeShot g).bind fun q8 => some (q8.1, q8.2) else (if oC = 119 then (F_X1_letPass oF g).bind fun q10 => some (q10.1, q10.2) else (F_X1_emptyChute g).bind fun q11 => some (q11.1, q11.2))))))
noncomputable def f_X4_doAllOn_L15 (sg : Nat → Int32) (oL : Int32) : Nat → Int32 → Int32 → Int32 → Int32 → Int32 → Int32 → Int32 → Int32 → Gr → Option (Int32 × Int32 × Int32 × Int32 × Int32 × Int32 × Int32 × Int32 × Gr)
  | 0, _, _, _, _, _, _, _, _, _ => none
  | fu + 1, oA_15, oC_15, oF_15, oS_15, oD_15, oP_15, oR_15, oU_15, g_15 => (if (60 : Int32) ≤ oD_15 then some (oA_15, oC_15, oF_15, oS_15, oD_15, oP_15, oR_15, oU_15, g_15) else (if oL ≤ oA_15 then some (oA_15, oC_15, oF_15, oS_15, oD_15, oP_15, oR_15, oU_15, g_15) else (f_X4_readOrder sg oL oA_15 oC_15 oF_15 oS_15).bind fun q3 => (if q3.1 = 0 then (f_X4_blame oA_15 (1 : Int32) (q3.2.1 - oA_15) oP_15 oR_15 oU_15).bind fun q9 => some (q3.2.1, q3.2.2.1, q3.2.2.2.1, q3.2.2.2.2, oD_15, q9.1, q9.2.1, q9.2.2, g_15) else (f_X4_doOrderOn q3.2.2.1 q3.2.2.2.1 q3.2.2.2.2 g_15).bind fun q5 => (if 0 ≤ q5.1 then lt ((oD_15 + (1 : Int32))) fun v7 => (f_X4_doAllOn_L15 sg oL fu) q3.2.1 q3.2.2.1 q3.2.2.2.1 q3.2.2.2.2 v7 oP_15 oR_15 oU_15 q5.2 else (f_X4_blame oA_15 (2 : Int32) q5.1 oP_15 oR_15 oU_15).bind fun q8 => some (q3.2.1, q3.2.2.1, q3.2.2.2.1, q3.2.2.2.2, oD_15, q8.1, q8.2.1, q8.2.2, q5.2)))))
noncomputable def f_X4_doAllOn (sg : Nat → Int32) (oL : Int32) (oA : Int32) (oC : Int32) (oF : Int32) (oS : Int32) (oD : Int32) (oP : Int32) (oR : Int32) (oU : Int32) (g : Gr) : Option (Int32 × Int32 × Int32 × Int32 × Int32 × Int32 × Int32 × Int32 × Gr) := f_X4_doAllOn_L15 sg oL FU (0 : Int32) oC oF oS (0 : Int32) oP (0 : Int32) oU g
noncomputable def f_X2_add (x1 : Nat) (yl : Nat) (ys : Nat) (yt : Nat) (yo : Nat) (yn : Int32) : Option (Nat × Nat × Nat × Nat × Nat × Int32) := lt ((if (yn + (1 : Int32)) < (4 : Int32) then (yn + (1 : Int32)) else (4 : Int32))) fun v1 => some (yo, x1, yl, ys, yt, v1)
noncomputable def f_X2_takeLatest (x1 : Nat) (yl : Nat) (ys : Nat) (yt : Nat) (yo : Nat) (yn : Int32) : Option (Nat × Nat × Nat × Nat × Nat × Int32) := lt ((if (0 : Int32) < (yn - (1 : Int32)) then (yn - (1 : Int32)) else (0 : Int32))) fun v1 => some (yl, ys, yt, yo, x1, v1)
noncomputable def f_X7_spareLikeNow (nw : Nat) (sp : Nat) (g : Gr) (go : Gr) : Option (Gr) := (F_X1_copyFrom go g).bind fun q1 => some q1
noncomputable def f_X7_keepIfDone (x1 : Int32) (nw : Nat) (sp : Nat) (yl : Nat) (ys : Nat) (yt : Nat) (yo : Nat) (yn : Int32) : Option (Int32 × Nat × Nat × Nat × Nat × Nat × Nat × Int32) := (if 0 ≤ x1 then (f_X2_add nw yl ys yt yo yn).bind fun q2 => some (x1, sp, q2.1, q2.2.1, q2.2.2.1, q2.2.2.2.1, q2.2.2.2.2.1, q2.2.2.2.2.2) else some (x1, nw, sp, yl, ys, yt, yo, yn))
noncomputable def f_X7_fill (x1 : Int32) (x2 : Int32) (nw : Nat) (sp : Nat) (yl : Nat) (ys : Nat) (yt : Nat) (yo : Nat) (yn : Int32) (g : Gr) (go : Gr) : Option (Int32 × Nat × Nat × Nat × Nat × Nat × Nat × Int32 × Gr) := (f_X7_spareLikeNow nw sp g go).bind fun q1 => (F_X1_fillIn x1 x2 q1).bind fun q2 => (f_X7_keepIfDone q2.1 nw sp yl ys yt yo yn).bind fun q3 => some (q3.1, q3.2.1, q3.2.2.1, q3.2.2.2.1, q3.2.2.2.2.1, q3.2.2.2.2.2.1, q3.2.2.2.2.2.2.1, q3.2.2.2.2.2.2.2, q2.2)
noncomputable def f_X7_grind (x1 : Int32) (x2 : Int32) (nw : Nat) (sp : Nat) (yl : Nat) (ys : Nat) (yt : Nat) (yo : Nat) (yn : Int32) (g : Gr) (go : Gr) : Option (Int32 × Nat × Nat × Nat × Nat × Nat × Nat × Int32 × Gr) := (f_X7_spareLikeNow nw sp g go).bind fun q1 => (F_X1_grindBy x1 x2 q1).bind fun q2 => (f_X7_keepIfDone q2.1 nw sp yl ys yt yo yn).bind fun q3 => some (q3.1, q3.2.1, q3.2.2.1, q3.2.2.2.1, q3.2.2.2.2.1, q3.2.2.2.2.2.1, q3.2.2.2.2.2.2.1, q3.2.2.2.2.2.2.2, q2.2)
noncomputable def f_X7_dial (x1 : Int32) (x2 : Int32) (nw : Nat) (sp : Nat) (yl : Nat) (ys : Nat) (yt : Nat) (yo : Nat) (yn : Int32) (g : Gr) (go : Gr) : Option (Int32 × Nat × Nat × Nat × Nat × Nat × Nat × Int32 × Gr) := (f_X7_spareLikeNow nw sp g go).bind fun q1 => (F_X1_turnDial x1 x2 q1).bind fun q2 => (f_X7_keepIfDone q2.1 nw sp yl ys yt yo yn).bind fun q3 => some (q3.1, q3.2.1, q3.2.2.1, q3.2.2.2.1, q3.2.2.2.2.1, q3.2.2.2.2.2.1, q3.2.2.2.2.2.2.1, q3.2.2.2.2.2.2.2, q2.2)
noncomputable def f_X7_rest (x1 : Int32) (nw : Nat) (sp : Nat) (yl : Nat) (ys : Nat) (yt : Nat) (yo : Nat) (yn : Int32) (g : Gr) (go : Gr) : Option (Int32 × Nat × Nat × Nat × Nat × Nat × Nat × Int32 × Gr) := (f_X7_spareLikeNow nw sp g go).bind fun q1 => (F_X1_letPass x1 q1).bind fun q2 => (f_X7_keepIfDone q2.1 nw sp yl ys yt yo yn).bind fun q3 => some (q3.1, q3.2.1, q3.2.2.1, q3.2.2.2.1, q3.2.2.2.2.1, q3.2.2.2.2.2.1, q3.2.2.2.2.2.2.1, q3.2.2.2.2.2.2.2, q2.2)
noncomputable def f_X7_shot (nw : Nat) (sp : Nat) (yl : Nat) (ys : Nat) (yt : Nat) (yo : Nat) (yn : Int32) (g : Gr) (go : Gr) : Option (Int32 × Nat × Nat × Nat × Nat × Nat × Nat × Int32 × Gr) := (f_X7_spareLikeNow nw sp g go).bind fun q1 => (F_X1_makeShot q1).bind fun q2 => (f_X7_keepIfDone q2.1 nw sp yl ys yt yo yn).bind fun q3 => some (q3.1, q3.2.1, q3.2.2.1, q3.2.2.2.1, q3.2.2.2.2.1, q3.2.2.2.2.2.1, q3.2.2.2.2.2.2.1, q3.2.2.2.2.2.2.2, q2.2)
noncomputable def f_X7_purge (nw : Nat) (sp : Nat) (yl : Nat) (ys : Nat) (yt : Nat) (yo : Nat) (yn : Int32) (g : Gr) (go : Gr) : Option (Int32 × Nat × Nat × Nat × Nat × Nat × Nat × Int32 × Gr) := (f_X7_spareLikeNow nw sp g go).bind fun q1 => (F_X1_emptyChute q1).bind fun q2 => (f_X7_keepIfDone q2.1 nw sp yl ys yt yo yn).bind fun q3 => some (q3.1, q3.2.1, q3.2.2.1, q3.2.2.2.1, q3.2.2.2.2.1, q3.2.2.2.2.2.1, q3.2.2.2.2.2.2.1, q3.2.2.2.2.2.2.2, q2.2)
noncomputable def f_X7_correct (x1 : Int32) (nw : Nat) (sp : Nat) (yl : Nat) (ys : Nat) (yt : Nat) (yo : Nat) (yn : Int32) (g : Gr) (go : Gr) : Option (Int32 × Nat × Nat × Nat × Nat × Nat × Nat × Int32 × Gr) := (f_X7_spareLikeNow nw sp g go).bind fun q1 => (F_X1_correctByLatest x1 q1).bind fun q2 => (f_X7_keepIfDone q2.1 nw sp yl ys yt yo yn).bind fun q3 => some (q3.1, q3.2.1, q3.2.2.1, q3.2.2.2.1, q3.2.2.2.2.1, q3.2.2.2.2.2.1, q3.2.2.2.2.2.2.1, q3.2.2.2.2.2.2.2, q2.2)
noncomputable def f_X7_set (x1 : Int32) (x2 : Int32) (nw : Nat) (sp : Nat) (yl : Nat) (ys : Nat) (yt : Nat) (yo : Nat) (yn : Int32) (g : Gr) (go : Gr) : Option (Int32 × Nat × Nat × Nat × Nat × Nat × Nat × Int32 × Gr) := (f_X7_spareLikeNow nw sp g go).bind fun q1 => (F_X1_changeSetting x1 x2 q1).bind fun q2 => (f_X7_keepIfDone q2.1 nw sp yl ys yt yo yn).bind fun q3 => some (q3.1, q3.2.1, q3.2.2.1, q3.2.2.2.1, q3.2.2.2.2.1, q3.2.2.2.2.2.1, q3.2.2.2.2.2.2.1, q3.2.2.2.2.2.2.2, q2.2)
noncomputable def f_X7_wouldTake (x1 : Int32) (x2 : Int32) (nw : Nat) (sp : Nat) (g : Gr) (go : Gr) : Option (Int32 × Gr) := (f_X7_spareLikeNow nw sp g go).bind fun q1 => (F_X1_grindBy x1 x2 q1).bind fun q2 => (if 0 ≤ q2.1 then (F_X1_timeOfBasket q2.2).bind fun q4 => some (q4, q2.2) else some (q2.1, q2.2))
noncomputable def f_X7_burrOf (x1 : Int32) (x2 : Int32) (nw : Nat) (d0 : Int32) (w0 : Int32) (g0 : Int32) (k0 : Int32) (d1 : Int32) (w1 : Int32) (g1 : Int32) (k1 : Int32) : Option (Int32) := (f_X7_isZeroOrOne x1).bind fun q1 => (if q1 = 0 then some (-1000001 : Int32) else (if x2 < 0 then some (-1000001 : Int32) else (if x2 ≤ (4 : Int32) then (if x1 = 0 then (f_X0_tell x2 d0 w0 g0 k0).bind fun q6 => some q6 else (f_X0_tell x2 d1 w1 g1 k1).bind fun q7 => some q7) else some (-1000001 : Int32))))
noncomputable def f_X7_lotOf (x1 : Int32) (x2 : Int32) (nw : Nat) (pA : Nat → Int32) (pM : Nat → Int32) (pn : Int32) : Option (Int32) := (if x1 < 0 then some (-1000001 : Int32) else (if x2 < 0 then some (-1000001 : Int32) else (if x2 ≤ (1 : Int32) then (f_X3_tell 6 x1 x2 pA pM pn).bind fun q4 => some q4 else some (-1000001 : Int32))))
noncomputable def f_X7_portionOf_J48 (nw : Nat) (qA : Nat → Int32) (qM : Nat → Int32) (qn : Int32) (uA : Nat → Int32) (uM : Nat → Int32) (un : Int32) (st : Nat → Int32) (y2_48 : Int32) (y3_48 : Int32) : Option (Int32) := (f_X1_tellPortion_u y2_48 y3_48 uA uM un st).bind fun q7 => some q7
noncomputable def f_X7_portionOf_J48a (nw : Nat) (qA : Nat → Int32) (qM : Nat → Int32) (qn : Int32) (uA : Nat → Int32) (uM : Nat → Int32) (un : Int32) (st : Nat → Int32) (y2_48a : Int32) (y3_48a : Int32) : Option (Int32) := (f_X1_tellPortion_q y2_48a y3_48a qA qM qn st).bind fun q8 => some q8
noncomputable def f_X7_portionOf (x1 : Int32) (x2 : Int32) (x3 : Int32) (nw : Nat) (qA : Nat → Int32) (qM : Nat → Int32) (qn : Int32) (uA : Nat → Int32) (uM : Nat → Int32) (un : Int32) (st : Nat → Int32) : Option (Int32) := (f_X7_isZeroOrOne x1).bind fun q1 => (if q1 = 0 then some (-1000001 : Int32) else (if x2 < 0 then some (-1000001 : Int32) else (if x3 < 0 then some (-1000001 : Int32) else (if x3 ≤ (4 : Int32) then (if x1 = 0 then f_X7_portionOf_J48a nw qA qM qn uA uM un st x2 x3 else f_X7_portionOf_J48 nw qA qM qn uA uM un st x2 x3) else some (-1000001 : Int32)))))
noncomputable def f_X7_shotOf (x1 : Int32) (x2 : Int32) (nw : Nat) (sF : Nat → Int32) (sk : Int32) (st : Nat → Int32) : Option (Int32) := (if x1 < 0 then some (-1000001 : Int32) else (if x2 < 0 then some (-1000001 : Int32) else (if x2 ≤ (7 : Int32) then (f_X6_tell x1 x2 (st (0 : Int32).toNatClampNeg) sF sk).bind fun q4 => some q4 else some (-1000001 : Int32))))
noncomputable def f_X7_best (x1 : Int32) (nw : Nat) (sF : Nat → Int32) (sk : Int32) (st : Nat → Int32) : Option (Int32) := (if 0 ≤ x1 then (f_X6_numberAtPlace x1 (st (0 : Int32).toNatClampNeg) sF sk).bind fun q2 => some q2 else some (-1000001 : Int32))
noncomputable def f_X7_dialFor (x1 : Int32) (x2 : Int32) (nw : Nat) (w0 : Int32) (w1 : Int32) (st : Nat → Int32) : Option (Int32) := (f_X7_isZeroOrOne x1).bind fun q1 => (if q1 = 0 then some (-1000001 : Int32) else (f_X7_isZeroOrOne x2).bind fun q3 => (if q3 = 0 then some (-1000001 : Int32) else (if x1 = 0 then (f_X1_nearestDial_0 x2 w0 st).bind fun q6 => some q6 else (f_X1_nearestDial_1 x2 w1 st).bind fun q7 => some q7)))
noncomputable def f_X7_stale (x1 : Int32) (nw : Nat) (pM : Nat → Int32) (pn : Int32) (d0 : Int32) (w0 : Int32) (d1 : Int32) (w1 : Int32) (qA : Nat → Int32) (qM : Nat → Int32) (qn : Int32) : Option (Int32) := (f_X7_isZeroOrOne x1).bind fun q1 => (if q1 = 0 then some (-1000001 : Int32) else (f_X1_staleFor x1 pM pn d0 w0 d1 w1 qA qM qn).bind fun q3 => some q3)
noncomputable def f_X7_coolAfter (x1 : Int32) (x2 : Int32) (nw : Nat) (w0 : Int32) (w1 : Int32) (se : Int32) : Option (Int32) := (f_X7_isZeroOrOne x1).bind fun q1 => (if q1 = 0 then some (-1000001 : Int32) else (if x2 < 0 then some (-1000001 : Int32) else (if x2 ≤ (300 : Int32) then (if x1 = 0 then (f_X1_secondsToCool_0 x2 w0 se).bind fun q6 => some q6 else (f_X1_secondsToCool_1 x2 w1 se).bind fun q7 => some q7) else some (-1000001 : Int32))))
noncomputable def f_X7_count (x1 : Int32) (nw : Nat) (yn : Int32) (oL : Int32) (pt : Int32) (qt : Int32) (ut : Int32) (sm : Int32) (st : Nat → Int32) (se : Int32) (fi : Int32) (gr : Int32) (br : Int32) (pu : Int32) (nr : Int32) : Option (Int32) := (if x1 = 10 then some yn else (if x1 = 11 then some oL else (f_X1_tell x1 pt qt ut sm st se fi gr br pu nr).bind fun q3 => some q3))
noncomputable def f_X7_undo (nw : Nat) (yl : Nat) (ys : Nat) (yt : Nat) (yo : Nat) (yn : Int32) : Option (Int32 × Nat × Nat × Nat × Nat × Nat × Int32) := (if (1 : Int32) ≤ yn then (f_X2_takeLatest nw yl ys yt yo yn).bind fun q2 => some (q2.2.2.2.2.2, q2.1, q2.2.1, q2.2.2.1, q2.2.2.2.1, q2.2.2.2.2.1, q2.2.2.2.2.2) else some ((-1000002 : Int32), nw, yl, ys, yt, yo, yn))
noncomputable def f_X7_type (x1 : Int32) (sg : Nat → Int32) (oL : Int32) : Option (Int32 × (Nat → Int32) × Int32) := (if x1 < (32 : Int32) then some ((-1000001 : Int32), sg, oL) else (if x1 ≤ (126 : Int32) then (f_X4_append ((x1.toUInt32 % 65536).toInt32) sg oL).bind fun q3 => some (q3.1, q3.2.1, q3.2.2) else some ((-1000001 : Int32), sg, oL)))
noncomputable def f_X7_clearText (oL : Int32) : Option (Int32 × Int32) := some (oL, (0 : Int32))
noncomputable def f_X7_fault (x1 : Int32) (nw : Nat) (sp : Nat) (sg : Nat → Int32) (oL : Int32) (oA : Int32) (oC : Int32) (oF : Int32) (oS : Int32) (oD : Int32) (oP : Int32) (oR : Int32) (oU : Int32) (g : Gr) (go : Gr) : Option (Int32 × Int32 × Int32 × Int32 × Int32 × Int32 × Int32 × Int32 × Int32 × Gr) := (if x1 < 0 then some ((-1000001 : Int32), oA, oC, oF, oS, oD, oP, oR, oU, go) else (if x1 ≤ (2 : Int32) then (f_X7_spareLikeNow nw sp g go).bind fun q3 => (f_X4_doAllOn sg oL oA oC oF oS oD oP oR oU q3).bind fun q4 => (f_X4_tellFault x1 q4.2.2.2.2.2.1 q4.2.2.2.2.2.2.1 q4.2.2.2.2.2.2.2.1).bind fun q5 => some (q5, q4.1, q4.2.1, q4.2.2.1, q4.2.2.2.1, q4.2.2.2.2.1, q4.2.2.2.2.2.1, q4.2.2.2.2.2.2.1, q4.2.2.2.2.2.2.2.1, q4.2.2.2.2.2.2.2.2) else some ((-1000001 : Int32), oA, oC, oF, oS, oD, oP, oR, oU, go)))
noncomputable def f_X7_play_J34 (sg : Nat → Int32) (oL : Int32) (g : Gr) (z0_34 : Int32) (nw_34 : Nat) (sp_34 : Nat) (yl_34 : Nat) (ys_34 : Nat) (yt_34 : Nat) (yo_34 : Nat) (yn_34 : Int32) (oA_34 : Int32) (oC_34 : Int32) (oF_34 : Int32) (oS_34 : Int32) (oD_34 : Int32) (oP_34 : Int32) (oR_34 : Int32) (oU_34 : Int32) (go_34 : Gr) : Option (Int32 × Nat × Nat × Nat × Nat × Nat × Nat × Int32 × Int32 × Int32 × Int32 × Int32 × Int32 × Int32 × Int32 × Int32 × Gr) := (f_X7_keepIfDone z0_34 nw_34 sp_34 yl_34 ys_34 yt_34 yo_34 yn_34).bind fun q5 => some (q5.1, q5.2.1, q5.2.2.1, q5.2.2.2.1, q5.2.2.2.2.1, q5.2.2.2.2.2.1, q5.2.2.2.2.2.2.1, q5.2.2.2.2.2.2.2, oA_34, oC_34, oF_34, oS_34, oD_34, oP_34, oR_34, oU_34, go_34)
noncomputable def f_X7_play (nw : Nat) (sp : Nat) (yl : Nat) (ys : Nat) (yt : Nat) (yo : Nat) (yn : Int32) (sg : Nat → Int32) (oL : Int32) (oA : Int32) (oC : Int32) (oF : Int32) (oS : Int32) (oD : Int32) (oP : Int32) (oR : Int32) (oU : Int32) (g : Gr) (go : Gr) : Option (Int32 × Nat × Nat × Nat × Nat × Nat × Nat × Int32 × Int32 × Int32 × Int32 × Int32 × Int32 × Int32 × Int32 × Int32 × Gr) := (f_X7_spareLikeNow nw sp g go).bind fun q1 => (f_X4_doAllOn sg oL oA oC oF oS oD oP oR oU q1).bind fun q2 => (f_X4_hasFault q2.2.2.2.2.2.2.1).bind fun q3 => (if q3 = 0 then f_X7_play_J34 sg oL g q2.2.2.2.2.1 nw sp yl ys yt yo yn q2.1 q2.2.1 q2.2.2.1 q2.2.2.2.1 q2.2.2.2.2.1 q2.2.2.2.2.2.1 q2.2.2.2.2.2.2.1 q2.2.2.2.2.2.2.2.1 q2.2.2.2.2.2.2.2.2 else f_X7_play_J34 sg oL g (-1000002 : Int32) nw sp yl ys yt yo yn q2.1 q2.2.1 q2.2.2.1 q2.2.2.2.1 q2.2.2.2.2.1 q2.2.2.2.2.2.1 q2.2.2.2.2.2.2.1 q2.2.2.2.2.2.2.2.1 q2.2.2.2.2.2.2.2.2)
noncomputable def f_X8_in (x0 : Int32) (x1 : Int32) (x2 : Int32) : Option (Int32) := (if x0 < x1 then some (0 : Int32) else (if x2 < x0 then some (0 : Int32) else some (1 : Int32)))
noncomputable def f_X8_isOne (x0 : Int32) : Option (Int32) := (f_X8_in x0 (0 : Int32) (1 : Int32)).bind fun q1 => gd (q1 = 0 ∨ q1 = 1) (some q1)
noncomputable def f_X8_amountOf (x0 : Int32) : Option (Int32) := some (x0 - x0 / (512 : Int32) * (512 : Int32))
noncomputable def f_X8_kindOf (x0 : Int32) : Option (Int32) := some ((x0 / (512 : Int32)) - (x0 / (512 : Int32)) / (2 : Int32) * (2 : Int32))
noncomputable def f_X8_burrIn (x0 : Int32) : Option (Int32) := some ((x0 / (1024 : Int32)) - (x0 / (1024 : Int32)) / (2 : Int32) * (2 : Int32))
noncomputable def f_X8_gapOf (x0 : Int32) : Option (Int32) := some (x0 / (2048 : Int32))
noncomputable def f_X8_gapBy (x0 : Int32) (x1 : Int32) : Option (Int32) := lt ((((10 : Int32) * x0) - (x1 / (5 : Int32)))) fun v1 => (if (10 : Int32) ≤ v1 then some v1 else some (10 : Int32))
noncomputable def f_X8_fall (x0 : Int32) : Option (Int32) := (if x0 = 0 then some (0 : Int32) else (if (16 : Int32) ≤ x0 then some (x0 / (16 : Int32)) else some (1 : Int32)))
noncomputable def f_X8_leastOf_J19 : Option (Int32) := some (30 : Int32)
noncomputable def f_X8_leastOf (x0 : Int32) : Option (Int32) := (if x0 = 0 then some (100 : Int32) else (if x0 = (3 : Int32) then f_X8_leastOf_J19 else (if x0 = (4 : Int32) then f_X8_leastOf_J19 else some (0 : Int32))))
noncomputable def f_X8_mostOf (x0 : Int32) : Option (Int32) := (if x0 = 0 then some (600 : Int32) else (if x0 = (1 : Int32) then some (200 : Int32) else (if x0 = (2 : Int32) then some (100 : Int32) else (if x0 = (5 : Int32) then some (1 : Int32) else some (300 : Int32)))))
noncomputable def f_X8_copies_L2 (A : Nat → Int32) : Nat → Int32 → (Nat → Int32) → Option ((Nat → Int32))
  | 0, _, _ => none
  | fu + 1, y2_2, B_2 => (if (631 : Int32) ≤ y2_2 then some B_2 else gd (¬ (y2_2 < 0 ∨ 631 ≤ y2_2.toNatClampNeg)) (lt ((A y2_2.toNatClampNeg)) fun v3 => gd (¬ (y2_2 < 0 ∨ 631 ≤ y2_2.toNatClampNeg)) (lt (upd B_2 y2_2.toNatClampNeg v3) fun Z5 => lt (y2_2 + (1 : Int32)) fun v6 => (f_X8_copies_L2 A fu) v6 Z5)))
noncomputable def f_X8_copies (A : Nat → Int32) (B : Nat → Int32) : Option ((Nat → Int32)) := f_X8_copies_L2 A FU (0 : Int32) B
noncomputable def f_X8_changes_L59 (S : Nat → Int32) (runs : Int32) : Nat → Int32 → (Nat → Int32) → Int32 → Option ((Nat → Int32) × Int32)
  | 0, _, _, _ => none
  | fu + 1, y1_59, P_59, pasts_59 => (if (631 : Int32) ≤ y1_59 then lt ((pasts_59 + (1 : Int32))) fun v11 => some (P_59, v11) else gd (¬ (y1_59 < 0 ∨ 631 ≤ y1_59.toNatClampNeg)) (lt ((S y1_59.toNatClampNeg)) fun v13 => gd (¬ ((((631 : Int32) * pasts_59) + y1_59) < 0 ∨ 2524 ≤ (((631 : Int32) * pasts_59) + y1_59).toNatClampNeg)) (lt (upd P_59 (((631 : Int32) * pasts_59) + y1_59).toNatClampNeg v13) fun Z15 => lt (y1_59 + (1 : Int32)) fun v16 => (f_X8_changes_L59 S runs fu) v16 Z15 pasts_59)))
noncomputable def f_X8_changes_J57 (S : Nat → Int32) (runs : Int32) (P_57 : Nat → Int32) (pasts_57 : Int32) : Option ((Nat → Int32) × Int32) := f_X8_changes_L59 S runs FU (0 : Int32) P_57 pasts_57
noncomputable def f_X8_changes_L18 (S : Nat → Int32) (runs : Int32) : Nat → Int32 → (Nat → Int32) → Int32 → Option ((Nat → Int32) × Int32)
  | 0, _, _, _ => none
  | fu + 1, y1_18, P_18, pasts_18 => (if (1893 : Int32) ≤ y1_18 then lt ((pasts_18 - (1 : Int32))) fun v4 => f_X8_changes_J57 S runs P_18 v4 else gd (¬ ((y1_18 + (631 : Int32)) < 0 ∨ 2524 ≤ (y1_18 + (631 : Int32)).toNatClampNeg)) (lt ((P_18 (y1_18 + (631 : Int32)).toNatClampNeg)) fun v6 => gd (¬ (y1_18 < 0 ∨ 2524 ≤ y1_18.toNatClampNeg)) (lt (upd P_18 y1_18.toNatClampNeg v6) fun Z8 => lt (y1_18 + (1 : Int32)) fun v9 => (f_X8_changes_L18 S runs fu) v9 Z8 pasts_18)))
noncomputable def f_X8_changes (S : Nat → Int32) (P : Nat → Int32) (pasts : Int32) (runs : Int32) : Option ((Nat → Int32) × Int32) := (if runs = 0 then (if pasts = (4 : Int32) then f_X8_changes_L18 S runs FU (0 : Int32) P pasts else f_X8_changes_J57 S runs P pasts) else some (P, pasts))
noncomputable def f_X8_flowOf (x1 : Int32) (S : Nat → Int32) : Option (Int32) := (f_X8_kindOf x1).bind fun q1 => gd (¬ (((10 : Int32) + q1) < 0 ∨ 631 ≤ ((10 : Int32) + q1).toNatClampNeg)) ((f_X8_gapOf x1).bind fun q3 => gd (¬ q3 = 0) (some (((S ((10 : Int32) + q1).toNatClampNeg) * (1000 : Int32)) / q3)))
noncomputable def f_X8_amounts_L5 (S : Nat → Int32) (y1_5 : Int32) (y2_5 : Int32) : Nat → Int32 → Int32 → Option (Int32)
  | 0, _, _ => none
  | fu + 1, y3_5, y4_5 => gd (¬ (y1_5 < 0 ∨ 631 ≤ y1_5.toNatClampNeg)) ((if (S y1_5.toNatClampNeg) ≤ y4_5 then some y3_5 else gd (¬ ((y2_5 + y4_5) < 0 ∨ 631 ≤ (y2_5 + y4_5).toNatClampNeg)) ((f_X8_amountOf (S (y2_5 + y4_5).toNatClampNeg)).bind fun q4 => lt ((y3_5 + q4)) fun v5 => lt (y4_5 + (1 : Int32)) fun v6 => (f_X8_amounts_L5 S y1_5 y2_5 fu) v5 v6)))
noncomputable def f_X8_amounts (x1 : Int32) (x2 : Int32) (S : Nat → Int32) : Option (Int32) := f_X8_amounts_L5 S x1 x2 FU (0 : Int32) (0 : Int32)
noncomputable def f_X8_hopper_L4 (S : Nat → Int32) : Nat → Int32 → Int32 → Option (Int32)
  | 0, _, _ => none
  | fu + 1, y1_4, y2_4 => (if (S (21 : Int32).toNatClampNeg) ≤ y2_4 then some y1_4 else gd (¬ ((((22 : Int32) + ((2 : Int32) * y2_4)) + (1 : Int32)) < 0 ∨ 631 ≤ (((22 : Int32) + ((2 : Int32) * y2_4)) + (1 : Int32)).toNatClampNeg)) (lt ((y1_4 + (S (((22 : Int32) + ((2 : Int32) * y2_4)) + (1 : Int32)).toNatClampNeg))) fun v3 => lt (y2_4 + (1 : Int32)) fun v4 => (f_X8_hopper_L4 S fu) v3 v4))
noncomputable def f_X8_hopper (S : Nat → Int32) : Option (Int32) := f_X8_hopper_L4 S FU (0 : Int32) (0 : Int32)
noncomputable def f_X8_ofBurr (x1 : Int32) (x2 : Int32) (S : Nat → Int32) : Option (Int32) := gd (¬ ((((13 : Int32) + ((4 : Int32) * x1)) + x2) < 0 ∨ 631 ≤ (((13 : Int32) + ((4 : Int32) * x1)) + x2).toNatClampNeg)) (some (S (((13 : Int32) + ((4 : Int32) * x1)) + x2).toNatClampNeg))
noncomputable def f_X8_gap (x1 : Int32) (S : Nat → Int32) : Option (Int32) := (f_X8_ofBurr x1 (0 : Int32) S).bind fun q1 => (f_X8_ofBurr x1 (1 : Int32) S).bind fun q2 => (f_X8_gapBy q1 q2).bind fun q3 => some q3
noncomputable def f_X8_passes_J82 (r4 : Int32 → Int32 → (Nat → Int32) → Option (Int32 × (Nat → Int32))) (y1_4 : Int32) (y2_82 : Int32) (y3_82 : Int32) (S_82 : Nat → Int32) : Option (Int32 × (Nat → Int32)) := lt (y3_82 + (1 : Int32)) fun v15 => r4 y2_82 v15 S_82
noncomputable def f_X8_passes_L22 (r4 : Int32 → Int32 → (Nat → Int32) → Option (Int32 × (Nat → Int32))) (y1_4 : Int32) (y3_22 : Int32) : Nat → Int32 → Int32 → (Nat → Int32) → Option (Int32 × (Nat → Int32))
  | 0, _, _, _ => none
  | fu + 1, y2_22, y4_22, S_22 => (if (2 : Int32) ≤ y4_22 then f_X8_passes_J82 r4 y1_4 y2_22 y3_22 S_22 else (if ((S_22 (0 : Int32).toNatClampNeg) - (S_22 (0 : Int32).toNatClampNeg) / (10 : Int32) * (10 : Int32)) = 0 then (f_X8_ofBurr y4_22 (1 : Int32) S_22).bind fun q6 => (f_X8_fall q6).bind fun q7 => lt ((((13 : Int32) + ((4 : Int32) * y4_22)) + (1 : Int32))) fun v8 => gd (¬ (v8 < 0 ∨ 631 ≤ v8.toNatClampNeg)) (lt (((S_22 v8.toNatClampNeg) - q7)) fun v10 => gd (¬ (v8 < 0 ∨ 631 ≤ v8.toNatClampNeg)) (lt (upd S_22 v8.toNatClampNeg v10) fun Z12 => lt ((y2_22 + q7)) fun v13 => lt (y4_22 + (1 : Int32)) fun v14 => (f_X8_passes_L22 r4 y1_4 y3_22 fu) v13 v14 Z12)) else f_X8_passes_J82 r4 y1_4 y2_22 y3_22 S_22))
noncomputable def f_X8_passes_L4 (y1_4 : Int32) : Nat → Int32 → Int32 → (Nat → Int32) → Option (Int32 × (Nat → Int32))
  | 0, _, _, _ => none
  | fu + 1, y2_4, y3_4, S_4 => (if y1_4 ≤ y3_4 then some (y2_4, S_4) else lt (((S_4 (0 : Int32).toNatClampNeg) + (1 : Int32))) fun v2 => lt (upd S_4 (0 : Int32).toNatClampNeg v2) fun Z3 => f_X8_passes_L22 (f_X8_passes_L4 y1_4 fu) y1_4 y3_4 FU y2_4 (0 : Int32) Z3)
noncomputable def f_X8_passes (x1 : Int32) (S : Nat → Int32) : Option (Int32 × (Nat → Int32)) := f_X8_passes_L4 x1 FU (0 : Int32) (0 : Int32) S
noncomputable def f_X8_fill_J167 (runs : Int32) (y2_167 : Int32) (S_167 : Nat → Int32) (P_167 : Nat → Int32) (pasts_167 : Int32) : Option (Int32 × (Nat → Int32) × (Nat → Int32) × Int32) := lt (((S_167 (1 : Int32).toNatClampNeg) + y2_167)) fun v26 => lt (upd S_167 (1 : Int32).toNatClampNeg v26) fun Z27 => (f_X8_hopper Z27).bind fun q28 => some (q28, Z27, P_167, pasts_167)
noncomputable def f_X8_fill_J74 (runs : Int32) (y1_74 : Int32) (y2_74 : Int32) (y3_74 : Int32) (y4_74 : Int32) (S_74 : Nat → Int32) (P_74 : Nat → Int32) (pasts_74 : Int32) : Option (Int32 × (Nat → Int32) × (Nat → Int32) × Int32) := (f_X8_hopper S_74).bind fun q11 => (if (q11 + y2_74) ≤ (4000 : Int32) then (f_X8_changes S_74 P_74 pasts_74 runs).bind fun q13 => (if y4_74 = 0 then gd (¬ (((22 : Int32) + ((2 : Int32) * (S_74 (21 : Int32).toNatClampNeg))) < 0 ∨ 631 ≤ ((22 : Int32) + ((2 : Int32) * (S_74 (21 : Int32).toNatClampNeg))).toNatClampNeg)) (lt (upd S_74 ((22 : Int32) + ((2 : Int32) * (S_74 (21 : Int32).toNatClampNeg))).toNatClampNeg y1_74) fun Z16 => gd (¬ ((((22 : Int32) + ((2 : Int32) * (Z16 (21 : Int32).toNatClampNeg))) + (1 : Int32)) < 0 ∨ 631 ≤ (((22 : Int32) + ((2 : Int32) * (Z16 (21 : Int32).toNatClampNeg))) + (1 : Int32)).toNatClampNeg)) (lt (upd Z16 (((22 : Int32) + ((2 : Int32) * (Z16 (21 : Int32).toNatClampNeg))) + (1 : Int32)).toNatClampNeg y2_74) fun Z18 => lt (((Z18 (21 : Int32).toNatClampNeg) + (1 : Int32))) fun v19 => lt (upd Z18 (21 : Int32).toNatClampNeg v19) fun Z20 => f_X8_fill_J167 runs y2_74 Z20 q13.1 q13.2)) else lt ((((22 : Int32) + ((2 : Int32) * y3_74)) + (1 : Int32))) fun v21 => gd (¬ (v21 < 0 ∨ 631 ≤ v21.toNatClampNeg)) (lt (((S_74 v21.toNatClampNeg) + y2_74)) fun v23 => gd (¬ (v21 < 0 ∨ 631 ≤ v21.toNatClampNeg)) (lt (upd S_74 v21.toNatClampNeg v23) fun Z25 => f_X8_fill_J167 runs y2_74 Z25 q13.1 q13.2))) else some ((-1000003 : Int32), S_74, P_74, pasts_74))
noncomputable def f_X8_fill_J55 (runs : Int32) (y1_55 : Int32) (y2_55 : Int32) (y3_55 : Int32) (z0_55 : Int32) (S_55 : Nat → Int32) (P_55 : Nat → Int32) (pasts_55 : Int32) : Option (Int32 × (Nat → Int32) × (Nat → Int32) × Int32) := (if z0_55 = 0 then (if (S_55 (21 : Int32).toNatClampNeg) = (6 : Int32) then some ((-1000003 : Int32), S_55, P_55, pasts_55) else f_X8_fill_J74 runs y1_55 y2_55 y3_55 z0_55 S_55 P_55 pasts_55) else f_X8_fill_J74 runs y1_55 y2_55 y3_55 z0_55 S_55 P_55 pasts_55)
noncomputable def f_X8_fill_J54 (runs : Int32) (y1_54 : Int32) (y2_54 : Int32) (y3_54 : Int32) (S_54 : Nat → Int32) (P_54 : Nat → Int32) (pasts_54 : Int32) : Option (Int32 × (Nat → Int32) × (Nat → Int32) × Int32) := f_X8_fill_J55 runs y1_54 y2_54 y3_54 (0 : Int32) S_54 P_54 pasts_54
noncomputable def f_X8_fill (x1 : Int32) (x2 : Int32) (S : Nat → Int32) (P : Nat → Int32) (pasts : Int32) (runs : Int32) : Option (Int32 × (Nat → Int32) × (Nat → Int32) × Int32) := (f_X8_isOne x1).bind fun q1 => (if q1 = 0 then some ((-1000001 : Int32), S, P, pasts) else (f_X8_in x2 (1 : Int32) (999 : Int32)).bind fun q3 => (if q3 = 0 then some ((-1000001 : Int32), S, P, pasts) else lt (((S (21 : Int32).toNatClampNeg) - (1 : Int32))) fun v5 => (if v5 < 0 then f_X8_fill_J54 runs x1 x2 v5 S P pasts else gd (¬ (((22 : Int32) + ((2 : Int32) * v5)) < 0 ∨ 631 ≤ ((22 : Int32) + ((2 : Int32) * v5)).toNatClampNeg)) ((if (S ((22 : Int32) + ((2 : Int32) * v5)).toNatClampNeg) = x1 then f_X8_fill_J55 runs x1 x2 v5 (1 : Int32) S P pasts else f_X8_fill_J54 runs x1 x2 v5 S P pasts)))))
noncomputable def f_X8_comes_J173 (r9 : Int32 → (Nat → Int32) → Option ((Nat → Int32))) (y1_9 : Int32) (y3_173 : Int32) (y4_9 : Int32) (S_173 : Nat → Int32) : Option ((Nat → Int32)) := r9 y3_173 S_173
noncomputable def f_X8_comes_L131 (r9 : Int32 → (Nat → Int32) → Option ((Nat → Int32))) (y1_9 : Int32) (y3_131 : Int32) (y4_9 : Int32) : Nat → Int32 → (Nat → Int32) → Option ((Nat → Int32))
  | 0, _, _ => none
  | fu + 1, y6_131, S_131 => (if ((2 : Int32) * (S_131 (21 : Int32).toNatClampNeg)) ≤ y6_131 then f_X8_comes_J173 r9 y1_9 y3_131 y4_9 S_131 else gd (¬ ((((22 : Int32) + y6_131) + (2 : Int32)) < 0 ∨ 631 ≤ (((22 : Int32) + y6_131) + (2 : Int32)).toNatClampNeg)) (lt ((S_131 (((22 : Int32) + y6_131) + (2 : Int32)).toNatClampNeg)) fun v17 => gd (¬ (((22 : Int32) + y6_131) < 0 ∨ 631 ≤ ((22 : Int32) + y6_131).toNatClampNeg)) (lt (upd S_131 ((22 : Int32) + y6_131).toNatClampNeg v17) fun Z19 => lt (y6_131 + (1 : Int32)) fun v20 => (f_X8_comes_L131 r9 y1_9 y3_131 y4_9 fu) v20 Z19)))
noncomputable def f_X8_comes_J35 (r9 : Int32 → (Nat → Int32) → Option ((Nat → Int32))) (y1_9 : Int32) (y3_35 : Int32) (y4_9 : Int32) (z0_35 : Int32) (S_35 : Nat → Int32) : Option ((Nat → Int32)) := lt ((((z0_35 + ((512 : Int32) * (S_35 (22 : Int32).toNatClampNeg))) + ((1024 : Int32) * y1_9)) + ((2048 : Int32) * y4_9))) fun v4 => gd (¬ (((35 : Int32) + (S_35 (34 : Int32).toNatClampNeg)) < 0 ∨ 631 ≤ ((35 : Int32) + (S_35 (34 : Int32).toNatClampNeg)).toNatClampNeg)) (lt (upd S_35 ((35 : Int32) + (S_35 (34 : Int32).toNatClampNeg)).toNatClampNeg v4) fun Z6 => lt (((Z6 (34 : Int32).toNatClampNeg) + (1 : Int32))) fun v7 => lt (upd Z6 (34 : Int32).toNatClampNeg v7) fun Z8 => lt (((Z8 (23 : Int32).toNatClampNeg) - z0_35)) fun v9 => lt (upd Z8 (23 : Int32).toNatClampNeg v9) fun Z10 => lt ((y3_35 - z0_35)) fun v11 => (if (Z10 (23 : Int32).toNatClampNeg) = 0 then lt (((Z10 (21 : Int32).toNatClampNeg) - (1 : Int32))) fun v13 => lt (upd Z10 (21 : Int32).toNatClampNeg v13) fun Z14 => f_X8_comes_L131 r9 y1_9 v11 y4_9 FU (0 : Int32) Z14 else f_X8_comes_J173 r9 y1_9 v11 y4_9 Z10))
noncomputable def f_X8_comes_L9 (y1_9 : Int32) (y4_9 : Int32) : Nat → Int32 → (Nat → Int32) → Option ((Nat → Int32))
  | 0, _, _ => none
  | fu + 1, y3_9, S_9 => (if y3_9 ≤ 0 then some S_9 else (if y3_9 ≤ (S_9 (23 : Int32).toNatClampNeg) then f_X8_comes_J35 (f_X8_comes_L9 y1_9 y4_9 fu) y1_9 y3_9 y4_9 y3_9 S_9 else f_X8_comes_J35 (f_X8_comes_L9 y1_9 y4_9 fu) y1_9 y3_9 y4_9 (S_9 (23 : Int32).toNatClampNeg) S_9))
noncomputable def f_X8_comes (x1 : Int32) (x2 : Int32) (S : Nat → Int32) : Option ((Nat → Int32)) := (f_X8_gap x1 S).bind fun q1 => f_X8_comes_L9 x1 q1 FU x2 S
noncomputable def f_X8_overflows_J165 (r17 : Int32 → (Nat → Int32) → Option ((Nat → Int32))) (y1_165 : Int32) (S_165 : Nat → Int32) : Option ((Nat → Int32)) := r17 y1_165 S_165
noncomputable def f_X8_overflows_L125 (r17 : Int32 → (Nat → Int32) → Option ((Nat → Int32))) (y1_125 : Int32) : Nat → Int32 → (Nat → Int32) → Option ((Nat → Int32))
  | 0, _, _ => none
  | fu + 1, y4_125, S_125 => (if (S_125 (34 : Int32).toNatClampNeg) ≤ y4_125 then f_X8_overflows_J165 r17 y1_125 S_125 else gd (¬ ((((35 : Int32) + y4_125) + (1 : Int32)) < 0 ∨ 631 ≤ (((35 : Int32) + y4_125) + (1 : Int32)).toNatClampNeg)) (lt ((S_125 (((35 : Int32) + y4_125) + (1 : Int32)).toNatClampNeg)) fun v23 => gd (¬ (((35 : Int32) + y4_125) < 0 ∨ 631 ≤ ((35 : Int32) + y4_125).toNatClampNeg)) (lt (upd S_125 ((35 : Int32) + y4_125).toNatClampNeg v23) fun Z25 => lt (y4_125 + (1 : Int32)) fun v26 => (f_X8_overflows_L125 r17 y1_125 fu) v26 Z25)))
noncomputable def f_X8_overflows_J45 (r17 : Int32 → (Nat → Int32) → Option ((Nat → Int32))) (y1_45 : Int32) (y2_45 : Int32) (z0_45 : Int32) (S_45 : Nat → Int32) : Option ((Nat → Int32)) := (f_X8_amountOf y2_45).bind fun q8 => lt (((y2_45 - q8) + z0_45)) fun v9 => gd (¬ (((146 : Int32) + (S_45 (145 : Int32).toNatClampNeg)) < 0 ∨ 631 ≤ ((146 : Int32) + (S_45 (145 : Int32).toNatClampNeg)).toNatClampNeg)) (lt (upd S_45 ((146 : Int32) + (S_45 (145 : Int32).toNatClampNeg)).toNatClampNeg v9) fun Z11 => lt (((Z11 (145 : Int32).toNatClampNeg) + (1 : Int32))) fun v12 => lt (upd Z11 (145 : Int32).toNatClampNeg v12) fun Z13 => lt (((Z13 (35 : Int32).toNatClampNeg) - z0_45)) fun v14 => lt (upd Z13 (35 : Int32).toNatClampNeg v14) fun Z15 => lt ((y1_45 - z0_45)) fun v16 => (f_X8_amountOf (Z15 (35 : Int32).toNatClampNeg)).bind fun q17 => (if q17 = 0 then lt (((Z15 (34 : Int32).toNatClampNeg) - (1 : Int32))) fun v19 => lt (upd Z15 (34 : Int32).toNatClampNeg v19) fun Z20 => f_X8_overflows_L125 r17 v16 FU (0 : Int32) Z20 else f_X8_overflows_J165 r17 v16 Z15))
noncomputable def f_X8_overflows_L17 : Nat → Int32 → (Nat → Int32) → Option ((Nat → Int32))
  | 0, _, _ => none
  | fu + 1, y1_17, S_17 => (if y1_17 ≤ 0 then some S_17 else lt ((S_17 (35 : Int32).toNatClampNeg)) fun v4 => (f_X8_amountOf v4).bind fun q5 => (if y1_17 ≤ q5 then f_X8_overflows_J45 (f_X8_overflows_L17 fu) y1_17 v4 y1_17 S_17 else (f_X8_amountOf v4).bind fun q7 => f_X8_overflows_J45 (f_X8_overflows_L17 fu) y1_17 v4 q7 S_17))
noncomputable def f_X8_overflows (S : Nat → Int32) : Option ((Nat → Int32)) := (f_X8_amounts (34 : Int32) (35 : Int32) S).bind fun q1 => lt ((q1 - (S (9 : Int32).toNatClampNeg))) fun v2 => f_X8_overflows_L17 FU v2 S
noncomputable def f_X8_couldGrind_J60 (S : Nat → Int32) (z0_60 : Int32) : Option (Int32) := (f_X8_amounts (145 : Int32) (146 : Int32) S).bind fun q10 => (if (q10 + z0_60) ≤ (400 : Int32) then some z0_60 else some (-1000003 : Int32))
noncomputable def f_X8_couldGrind (x1 : Int32) (x2 : Int32) (S : Nat → Int32) : Option (Int32) := (f_X8_isOne x1).bind fun q1 => (if q1 = 0 then some (-1000001 : Int32) else (f_X8_in x2 (1 : Int32) (400 : Int32)).bind fun q3 => (if q3 = 0 then some (-1000001 : Int32) else (f_X8_hopper S).bind fun q5 => (if x2 ≤ q5 then (f_X8_amounts (34 : Int32) (35 : Int32) S).bind fun q7 => lt (((q7 + x2) - (S (9 : Int32).toNatClampNeg))) fun v8 => (if 0 ≤ v8 then f_X8_couldGrind_J60 S v8 else f_X8_couldGrind_J60 S (0 : Int32)) else some (-1000002 : Int32))))
noncomputable def f_X8_grinds_J43 (y1_43 : Int32) (y2_43 : Int32) (z0_43 : Int32) (z1_43 : Int32) (S_43 : Nat → Int32) : Option ((Nat → Int32)) := gd (¬ (z1_43 < 0 ∨ 631 ≤ z1_43.toNatClampNeg)) (lt (upd S_43 z1_43.toNatClampNeg z0_43) fun Z6 => lt ((((13 : Int32) + ((4 : Int32) * y1_43)) + (2 : Int32))) fun v7 => gd (¬ (v7 < 0 ∨ 631 ≤ v7.toNatClampNeg)) (lt (((Z6 v7.toNatClampNeg) + y2_43)) fun v9 => gd (¬ (v7 < 0 ∨ 631 ≤ v7.toNatClampNeg)) (lt (upd Z6 v7.toNatClampNeg v9) fun Z11 => lt (((Z11 (2 : Int32).toNatClampNeg) + y2_43)) fun v12 => lt (upd Z11 (2 : Int32).toNatClampNeg v12) fun Z13 => (f_X8_overflows Z13).bind fun q14 => some q14)))
noncomputable def f_X8_grinds (x1 : Int32) (x2 : Int32) (S : Nat → Int32) : Option ((Nat → Int32)) := (f_X8_comes x1 x2 S).bind fun q1 => (f_X8_ofBurr x1 (1 : Int32) q1).bind fun q2 => lt ((q2 + (x2 / (4 : Int32)))) fun v3 => (if v3 ≤ (300 : Int32) then f_X8_grinds_J43 x1 x2 v3 (((13 : Int32) + ((4 : Int32) * x1)) + (1 : Int32)) q1 else f_X8_grinds_J43 x1 x2 (300 : Int32) (((13 : Int32) + ((4 : Int32) * x1)) + (1 : Int32)) q1)
noncomputable def f_X8_grind (x1 : Int32) (x2 : Int32) (S : Nat → Int32) (P : Nat → Int32) (pasts : Int32) (runs : Int32) : Option (Int32 × (Nat → Int32) × (Nat → Int32) × Int32) := (f_X8_couldGrind x1 x2 S).bind fun q1 => (if 0 ≤ q1 then (f_X8_changes S P pasts runs).bind fun q3 => (f_X8_grinds x1 x2 S).bind fun q4 => (f_X8_passes ((x2 + (9 : Int32)) / (10 : Int32)) q4).bind fun q5 => (if 0 ≤ q5.1 then some (q1, q5.2, q3.1, q3.2) else some ((-1000004 : Int32), q5.2, q3.1, q3.2)) else some (q1, S, P, pasts))
noncomputable def f_X8_dial (x1 : Int32) (x2 : Int32) (S : Nat → Int32) (P : Nat → Int32) (pasts : Int32) (runs : Int32) : Option (Int32 × (Nat → Int32) × (Nat → Int32) × Int32) := (f_X8_isOne x1).bind fun q1 => (if q1 = 0 then some ((-1000001 : Int32), S, P, pasts) else (f_X8_in x2 (1 : Int32) (60 : Int32)).bind fun q3 => (if q3 = 0 then some ((-1000001 : Int32), S, P, pasts) else (f_X8_changes S P pasts runs).bind fun q5 => (f_X8_ofBurr x1 (0 : Int32) S).bind fun q6 => gd (¬ ((((13 : Int32) + ((4 : Int32) * x1)) + (0 : Int32)) < 0 ∨ 631 ≤ (((13 : Int32) + ((4 : Int32) * x1)) + (0 : Int32)).toNatClampNeg)) (lt (upd S (((13 : Int32) + ((4 : Int32) * x1)) + (0 : Int32)).toNatClampNeg x2) fun Z8 => some (q6, Z8, q5.1, q5.2))))
noncomputable def f_X8_rest (x1 : Int32) (S : Nat → Int32) (P : Nat → Int32) (pasts : Int32) (runs : Int32) : Option (Int32 × (Nat → Int32) × (Nat → Int32) × Int32) := (f_X8_in x1 (1 : Int32) (999 : Int32)).bind fun q1 => (if q1 = 0 then some ((-1000001 : Int32), S, P, pasts) else (f_X8_changes S P pasts runs).bind fun q3 => (f_X8_passes x1 S).bind fun q4 => some (q4.1, q4.2, q3.1, q3.2))
noncomputable def f_X8_timeNow_L4 (S : Nat → Int32) : Nat → Int32 → Int32 → Option (Int32)
  | 0, _, _ => none
  | fu + 1, y1_4, y2_4 => (if (S (145 : Int32).toNatClampNeg) ≤ y2_4 then (f_X8_amounts (145 : Int32) (146 : Int32) S).bind fun q2 => gd (¬ q2 = 0) (some (y1_4 / q2)) else gd (¬ (((146 : Int32) + y2_4) < 0 ∨ 631 ≤ ((146 : Int32) + y2_4).toNatClampNeg)) ((f_X8_amountOf (S ((146 : Int32) + y2_4).toNatClampNeg)).bind fun q5 => gd (¬ (((146 : Int32) + y2_4) < 0 ∨ 631 ≤ ((146 : Int32) + y2_4).toNatClampNeg)) ((f_X8_flowOf (S ((146 : Int32) + y2_4).toNatClampNeg) S).bind fun q7 => lt ((y1_4 + (q5 * q7))) fun v8 => lt (y2_4 + (1 : Int32)) fun v9 => (f_X8_timeNow_L4 S fu) v8 v9)))
noncomputable def f_X8_timeNow (S : Nat → Int32) : Option (Int32) := f_X8_timeNow_L4 S FU (0 : Int32) (0 : Int32)
noncomputable def f_X8_corrects_J60 (y1_60 : Int32) (z0_60 : Int32) (z1_60 : Int32) (S_60 : Nat → Int32) : Option ((Nat → Int32)) := gd (¬ (z1_60 < 0 ∨ 631 ≤ z1_60.toNatClampNeg)) (lt (upd S_60 z1_60.toNatClampNeg z0_60) fun Z7 => lt ((((13 : Int32) + ((4 : Int32) * y1_60)) + (3 : Int32))) fun v8 => gd (¬ (v8 < 0 ∨ 631 ≤ v8.toNatClampNeg)) (lt (((Z7 v8.toNatClampNeg) + (1 : Int32))) fun v10 => gd (¬ (v8 < 0 ∨ 631 ≤ v8.toNatClampNeg)) (lt (upd Z7 v8.toNatClampNeg v10) fun Z12 => some Z12)))
noncomputable def f_X8_corrects (x1 : Int32) (x2 : Int32) (S : Nat → Int32) : Option ((Nat → Int32)) := (f_X8_ofBurr x1 (0 : Int32) S).bind fun q1 => gd (¬ (S (7 : Int32).toNatClampNeg) = 0) (lt ((((q1 * x2) + ((S (7 : Int32).toNatClampNeg) / (2 : Int32))) / (S (7 : Int32).toNatClampNeg))) fun v3 => (if (1 : Int32) ≤ v3 then (if v3 ≤ (60 : Int32) then f_X8_corrects_J60 x1 v3 (((13 : Int32) + ((4 : Int32) * x1)) + (0 : Int32)) S else f_X8_corrects_J60 x1 (60 : Int32) (((13 : Int32) + ((4 : Int32) * x1)) + (0 : Int32)) S) else f_X8_corrects_J60 x1 (1 : Int32) (((13 : Int32) + ((4 : Int32) * x1)) + (0 : Int32)) S))
noncomputable def f_X8_away (x1 : Int32) (S : Nat → Int32) : Option (Int32) := lt ((x1 - (S (7 : Int32).toNatClampNeg))) fun v1 => (if 0 ≤ v1 then some v1 else some (-v1))
noncomputable def f_X8_shot_J374 (runs : Int32) (y1_374 : Int32) (S_374 : Nat → Int32) (P_374 : Nat → Int32) (pasts_374 : Int32) : Option (Int32 × (Nat → Int32) × (Nat → Int32) × Int32) := (f_X8_passes (y1_374 / (10 : Int32)) S_374).bind fun q52 => (if 0 ≤ q52.1 then some (y1_374, q52.2, P_374, pasts_374) else some ((-1000004 : Int32), q52.2, P_374, pasts_374))
noncomputable def f_X8_shot_J330 (runs : Int32) (y1_330 : Int32) (y5_330 : Int32) (z0_330 : Int32) (z1_330 : Int32) (z2_330 : Int32) (S_330 : Nat → Int32) (P_330 : Nat → Int32) (pasts_330 : Int32) : Option (Int32 × (Nat → Int32) × (Nat → Int32) × Int32) := lt ((z1_330 + z0_330)) fun v44 => gd (¬ (z2_330 < 0 ∨ 631 ≤ z2_330.toNatClampNeg)) (lt (upd S_330 z2_330.toNatClampNeg v44) fun Z46 => lt (upd Z46 (145 : Int32).toNatClampNeg (0 : Int32)) fun Z47 => (if (Z47 (12 : Int32).toNatClampNeg) = (1 : Int32) then (f_X8_away y1_330 Z47).bind fun q49 => (if q49 ≤ (Z47 (8 : Int32).toNatClampNeg) then f_X8_shot_J374 runs y1_330 Z47 P_330 pasts_330 else (f_X8_corrects y5_330 y1_330 Z47).bind fun q51 => f_X8_shot_J374 runs y1_330 q51 P_330 pasts_330) else f_X8_shot_J374 runs y1_330 Z47 P_330 pasts_330))
noncomputable def f_X8_shot_J280 (runs : Int32) (y1_280 : Int32) (y2_280 : Int32) (y5_280 : Int32) (z0_280 : Int32) (z1_280 : Int32) (z2_280 : Int32) (S_280 : Nat → Int32) (P_280 : Nat → Int32) (pasts_280 : Int32) : Option (Int32 × (Nat → Int32) × (Nat → Int32) × Int32) := lt ((z1_280 + z0_280)) fun v35 => gd (¬ (z2_280 < 0 ∨ 631 ≤ z2_280.toNatClampNeg)) (lt (upd S_280 z2_280.toNatClampNeg v35) fun Z37 => lt (((Z37 (5 : Int32).toNatClampNeg) + (1 : Int32))) fun v38 => lt (upd Z37 (5 : Int32).toNatClampNeg v38) fun Z39 => lt (((Z39 (3 : Int32).toNatClampNeg) + y2_280)) fun v40 => lt (upd Z39 (3 : Int32).toNatClampNeg v40) fun Z41 => (f_X8_away y1_280 Z41).bind fun q42 => (if (Z41 (8 : Int32).toNatClampNeg) < q42 then f_X8_shot_J330 runs y1_280 y5_280 (0 : Int32) (Z41 (6 : Int32).toNatClampNeg) (6 : Int32) Z41 P_280 pasts_280 else f_X8_shot_J330 runs y1_280 y5_280 (1 : Int32) (Z41 (6 : Int32).toNatClampNeg) (6 : Int32) Z41 P_280 pasts_280))
noncomputable def f_X8_shot_J222 (runs : Int32) (y1_222 : Int32) (y2_222 : Int32) (y5_222 : Int32) (z0_222 : Int32) (z1_222 : Int32) (S_222 : Nat → Int32) (P_222 : Nat → Int32) (pasts_222 : Int32) : Option (Int32 × (Nat → Int32) × (Nat → Int32) × Int32) := gd (¬ (z1_222 < 0 ∨ 631 ≤ z1_222.toNatClampNeg)) (lt (upd S_222 z1_222.toNatClampNeg z0_222) fun Z29 => lt ((Z29 (0 : Int32).toNatClampNeg)) fun v30 => lt (upd Z29 (552 : Int32).toNatClampNeg v30) fun Z31 => lt ((Z31 (145 : Int32).toNatClampNeg)) fun v32 => lt (upd Z31 (553 : Int32).toNatClampNeg v32) fun Z33 => (if (12 : Int32) ≤ (Z33 (546 : Int32).toNatClampNeg) then f_X8_shot_J280 runs y1_222 y2_222 y5_222 (0 : Int32) (Z33 (546 : Int32).toNatClampNeg) (546 : Int32) Z33 P_222 pasts_222 else f_X8_shot_J280 runs y1_222 y2_222 y5_222 (1 : Int32) (Z33 (546 : Int32).toNatClampNeg) (546 : Int32) Z33 P_222 pasts_222))
noncomputable def f_X8_shot_L123 (runs : Int32) (y1_123 : Int32) (y2_123 : Int32) (y3_123 : Int32) (y5_123 : Int32) : Nat → Int32 → (Nat → Int32) → (Nat → Int32) → Int32 → Option (Int32 × (Nat → Int32) × (Nat → Int32) × Int32)
  | 0, _, _, _, _ => none
  | fu + 1, y6_123, S_123, P_123, pasts_123 => (if y6_123 < (7 : Int32) then lt ((S_123 (5 : Int32).toNatClampNeg)) fun v17 => lt (upd S_123 (547 : Int32).toNatClampNeg v17) fun Z18 => lt (upd Z18 (548 : Int32).toNatClampNeg y1_123) fun Z19 => lt (upd Z19 (549 : Int32).toNatClampNeg y2_123) fun Z20 => lt (upd Z20 (550 : Int32).toNatClampNeg y5_123) fun Z21 => (if ((2 : Int32) * y3_123) ≤ y2_123 then f_X8_shot_J222 runs y1_123 y2_123 y5_123 (0 : Int32) (551 : Int32) Z21 P_123 pasts_123 else f_X8_shot_J222 runs y1_123 y2_123 y5_123 (1 : Int32) (551 : Int32) Z21 P_123 pasts_123) else gd (¬ ((((547 : Int32) + y6_123) - (7 : Int32)) < 0 ∨ 631 ≤ (((547 : Int32) + y6_123) - (7 : Int32)).toNatClampNeg)) (lt ((S_123 (((547 : Int32) + y6_123) - (7 : Int32)).toNatClampNeg)) fun v24 => gd (¬ (((547 : Int32) + y6_123) < 0 ∨ 631 ≤ ((547 : Int32) + y6_123).toNatClampNeg)) (lt (upd S_123 ((547 : Int32) + y6_123).toNatClampNeg v24) fun Z26 => lt (y6_123 + (-1 : Int32)) fun v27 => (f_X8_shot_L123 runs y1_123 y2_123 y3_123 y5_123 fu) v27 Z26 P_123 pasts_123)))
noncomputable def f_X8_shot_J117 (runs : Int32) (y1_117 : Int32) (y2_117 : Int32) (y3_117 : Int32) (z0_117 : Int32) (S_117 : Nat → Int32) (P_117 : Nat → Int32) (pasts_117 : Int32) : Option (Int32 × (Nat → Int32) × (Nat → Int32) × Int32) := f_X8_shot_L123 runs y1_117 y2_117 y3_117 z0_117 FU (83 : Int32) S_117 P_117 pasts_117
noncomputable def f_X8_shot_L42 (runs : Int32) (y1_42 : Int32) (y2_42 : Int32) : Nat → Int32 → Int32 → Int32 → (Nat → Int32) → (Nat → Int32) → Int32 → Option (Int32 × (Nat → Int32) × (Nat → Int32) × Int32)
  | 0, _, _, _, _, _, _ => none
  | fu + 1, y3_42, y4_42, y5_42, S_42, P_42, pasts_42 => (if (S_42 (145 : Int32).toNatClampNeg) ≤ y5_42 then (if ((2 : Int32) * y4_42) ≤ y2_42 then f_X8_shot_J117 runs y1_42 y2_42 y3_42 (0 : Int32) S_42 P_42 pasts_42 else f_X8_shot_J117 runs y1_42 y2_42 y3_42 (1 : Int32) S_42 P_42 pasts_42) else gd (¬ (((146 : Int32) + y5_42) < 0 ∨ 631 ≤ ((146 : Int32) + y5_42).toNatClampNeg)) (lt ((S_42 ((146 : Int32) + y5_42).toNatClampNeg)) fun v8 => (f_X8_kindOf v8).bind fun q9 => (f_X8_amountOf v8).bind fun q10 => lt ((y3_42 + (q9 * q10))) fun v11 => (f_X8_burrIn v8).bind fun q12 => (f_X8_amountOf v8).bind fun q13 => lt ((y4_42 + (q12 * q13))) fun v14 => lt (y5_42 + (1 : Int32)) fun v15 => (f_X8_shot_L42 runs y1_42 y2_42 fu) v11 v14 v15 S_42 P_42 pasts_42))
noncomputable def f_X8_shot (S : Nat → Int32) (P : Nat → Int32) (pasts : Int32) (runs : Int32) : Option (Int32 × (Nat → Int32) × (Nat → Int32) × Int32) := (if (S (145 : Int32).toNatClampNeg) = 0 then some ((-1000002 : Int32), S, P, pasts) else (f_X8_changes S P pasts runs).bind fun q2 => (f_X8_timeNow S).bind fun q3 => (f_X8_amounts (145 : Int32) (146 : Int32) S).bind fun q4 => f_X8_shot_L42 runs q3 q4 FU (0 : Int32) (0 : Int32) (0 : Int32) S q2.1 q2.2)
noncomputable def f_X8_purge (S : Nat → Int32) (P : Nat → Int32) (pasts : Int32) (runs : Int32) : Option (Int32 × (Nat → Int32) × (Nat → Int32) × Int32) := (f_X8_changes S P pasts runs).bind fun q1 => (f_X8_amounts (34 : Int32) (35 : Int32) S).bind fun q2 => lt (((S (4 : Int32).toNatClampNeg) + q2)) fun v3 => lt (upd S (4 : Int32).toNatClampNeg v3) fun Z4 => lt (upd Z4 (34 : Int32).toNatClampNeg (0 : Int32)) fun Z5 => some (q2, Z5, q1.1, q1.2)
noncomputable def f_X8_correct (x1 : Int32) (S : Nat → Int32) (P : Nat → Int32) (pasts : Int32) (runs : Int32) : Option (Int32 × (Nat → Int32) × (Nat → Int32) × Int32) := (f_X8_isOne x1).bind fun q1 => (if q1 = 0 then some ((-1000001 : Int32), S, P, pasts) else (if (S (546 : Int32).toNatClampNeg) = 0 then some ((-1000002 : Int32), S, P, pasts) else (f_X8_changes S P pasts runs).bind fun q4 => (f_X8_corrects x1 (S (548 : Int32).toNatClampNeg) S).bind fun q5 => (f_X8_ofBurr x1 (0 : Int32) q5).bind fun q6 => some (q6, q5, q4.1, q4.2)))
noncomputable def f_X8_set (x1 : Int32) (x2 : Int32) (S : Nat → Int32) (P : Nat → Int32) (pasts : Int32) (runs : Int32) : Option (Int32 × (Nat → Int32) × (Nat → Int32) × Int32) := (f_X8_in x1 (0 : Int32) (5 : Int32)).bind fun q1 => (if q1 = 0 then some ((-1000001 : Int32), S, P, pasts) else (f_X8_leastOf x1).bind fun q3 => (f_X8_mostOf x1).bind fun q4 => (f_X8_in x2 q3 q4).bind fun q5 => (if q5 = 0 then some ((-1000001 : Int32), S, P, pasts) else (f_X8_changes S P pasts runs).bind fun q7 => gd (¬ (((7 : Int32) + x1) < 0 ∨ 631 ≤ ((7 : Int32) + x1).toNatClampNeg)) (lt ((S ((7 : Int32) + x1).toNatClampNeg)) fun v9 => gd (¬ (((7 : Int32) + x1) < 0 ∨ 631 ≤ ((7 : Int32) + x1).toNatClampNeg)) (lt (upd S ((7 : Int32) + x1).toNatClampNeg x2) fun Z11 => some (v9, Z11, q7.1, q7.2)))))
noncomputable def f_X8_burrOf_J46 (S : Nat → Int32) (z0_46 : Int32) (z1_46 : Int32) : Option (Int32) := (f_X8_ofBurr z1_46 z0_46 S).bind fun q8 => some q8
noncomputable def f_X8_burrOf (x1 : Int32) (x2 : Int32) (S : Nat → Int32) : Option (Int32) := (f_X8_isOne x1).bind fun q1 => (if q1 = 0 then some (-1000001 : Int32) else (f_X8_in x2 (0 : Int32) (4 : Int32)).bind fun q3 => (if q3 = 0 then some (-1000001 : Int32) else (if x2 = (2 : Int32) then (f_X8_gap x1 S).bind fun q7 => some q7 else (if (2 : Int32) ≤ x2 then f_X8_burrOf_J46 S (x2 - (1 : Int32)) x1 else f_X8_burrOf_J46 S x2 x1))))
noncomputable def f_X8_lotOf (x1 : Int32) (x2 : Int32) (S : Nat → Int32) : Option (Int32) := (if x1 < 0 then some (-1000001 : Int32) else (f_X8_isOne x2).bind fun q2 => (if q2 = 0 then some (-1000001 : Int32) else (if x1 < (S (21 : Int32).toNatClampNeg) then gd (¬ ((((22 : Int32) + ((2 : Int32) * x1)) + x2) < 0 ∨ 631 ≤ (((22 : Int32) + ((2 : Int32) * x1)) + x2).toNatClampNeg)) (some (S (((22 : Int32) + ((2 : Int32) * x1)) + x2).toNatClampNeg)) else some (-1000004 : Int32))))
noncomputable def f_X8_portionOf_J63 (S : Nat → Int32) (y2_63 : Int32) (y3_63 : Int32) (z0_63 : Int32) : Option (Int32) := gd (¬ ((z0_63 + y2_63) < 0 ∨ 631 ≤ (z0_63 + y2_63).toNatClampNeg)) (lt ((S (z0_63 + y2_63).toNatClampNeg)) fun v11 => (if y3_63 = 0 then (f_X8_amountOf v11).bind fun q20 => some q20 else (if y3_63 = (1 : Int32) then (f_X8_kindOf v11).bind fun q19 => some q19 else (if y3_63 = (2 : Int32) then (f_X8_burrIn v11).bind fun q18 => some q18 else (if y3_63 = (3 : Int32) then (f_X8_gapOf v11).bind fun q17 => some q17 else (f_X8_flowOf v11 S).bind fun q16 => some q16)))))
noncomputable def f_X8_portionOf_J40 (S : Nat → Int32) (y1_40 : Int32) (y2_40 : Int32) (y3_40 : Int32) (z0_40 : Int32) (z2_40 : Int32) : Option (Int32) := gd (¬ (z0_40 < 0 ∨ 631 ≤ z0_40.toNatClampNeg)) ((if z2_40 < (S z0_40.toNatClampNeg) then (if y1_40 = 0 then f_X8_portionOf_J63 S y2_40 y3_40 (35 : Int32) else f_X8_portionOf_J63 S y2_40 y3_40 (146 : Int32)) else some (-1000004 : Int32)))
noncomputable def f_X8_portionOf (x1 : Int32) (x2 : Int32) (x3 : Int32) (S : Nat → Int32) : Option (Int32) := (f_X8_isOne x1).bind fun q1 => (if q1 = 0 then some (-1000001 : Int32) else (if x2 < 0 then some (-1000001 : Int32) else (f_X8_in x3 (0 : Int32) (4 : Int32)).bind fun q4 => (if q4 = 0 then some (-1000001 : Int32) else (if x1 = 0 then f_X8_portionOf_J40 S x1 x2 x3 (34 : Int32) x2 else f_X8_portionOf_J40 S x1 x2 x3 (145 : Int32) x2))))
noncomputable def f_X8_shotOf_J78 (S : Nat → Int32) (z0_78 : Int32) (z1_78 : Int32) : Option (Int32) := gd (¬ ((z1_78 + z0_78) < 0 ∨ 631 ≤ (z1_78 + z0_78).toNatClampNeg)) (some (S (z1_78 + z0_78).toNatClampNeg))
noncomputable def f_X8_shotOf (x1 : Int32) (x2 : Int32) (S : Nat → Int32) : Option (Int32) := (if x1 < 0 then some (-1000001 : Int32) else (f_X8_in x2 (0 : Int32) (7 : Int32)).bind fun q2 => (if q2 = 0 then some (-1000001 : Int32) else (if x1 < (S (546 : Int32).toNatClampNeg) then lt (((547 : Int32) + ((7 : Int32) * x1))) fun v5 => (if x2 = (5 : Int32) then gd (¬ ((v5 + (1 : Int32)) < 0 ∨ 631 ≤ (v5 + (1 : Int32)).toNatClampNeg)) ((f_X8_away (S (v5 + (1 : Int32)).toNatClampNeg) S).bind fun q9 => some q9) else (if (5 : Int32) ≤ x2 then f_X8_shotOf_J78 S (x2 - (1 : Int32)) v5 else f_X8_shotOf_J78 S x2 v5)) else some (-1000004 : Int32))))
noncomputable def f_X8_best_J145 (r12 : Int32 → Int32 → Option (Int32)) (S : Nat → Int32) (y1_12 : Int32) (y3_145 : Int32) (z0_145 : Int32) : Option (Int32) := lt (y3_145 + (1 : Int32)) fun v13 => r12 z0_145 v13
noncomputable def f_X8_best_J113 (r12 : Int32 → Int32 → Option (Int32)) (r51 : Int32 → Int32 → Option (Int32)) (S : Nat → Int32) (y1_12 : Int32) (y2_51 : Int32) (y3_51 : Int32) (y4_51 : Int32) (y6_113 : Int32) (z0_113 : Int32) (z1_113 : Int32) : Option (Int32) := lt ((z1_113 + z0_113)) fun v14 => lt (y6_113 + (1 : Int32)) fun v15 => r51 v14 v15
noncomputable def f_X8_best_J112 (r12 : Int32 → Int32 → Option (Int32)) (r51 : Int32 → Int32 → Option (Int32)) (S : Nat → Int32) (y1_12 : Int32) (y2_51 : Int32) (y3_51 : Int32) (y4_51 : Int32) (y6_112 : Int32) (z0_112 : Int32) : Option (Int32) := f_X8_best_J113 r12 r51 S y1_12 y2_51 y3_51 y4_51 y6_112 (0 : Int32) z0_112
noncomputable def f_X8_best_J108 (r12 : Int32 → Int32 → Option (Int32)) (r51 : Int32 → Int32 → Option (Int32)) (S : Nat → Int32) (y1_12 : Int32) (y2_51 : Int32) (y3_51 : Int32) (y4_51 : Int32) (y6_108 : Int32) (z0_108 : Int32) : Option (Int32) := f_X8_best_J113 r12 r51 S y1_12 y2_51 y3_51 y4_51 y6_108 (1 : Int32) z0_108
noncomputable def f_X8_best_L51 (r12 : Int32 → Int32 → Option (Int32)) (S : Nat → Int32) (y1_12 : Int32) (y2_51 : Int32) (y3_51 : Int32) (y4_51 : Int32) : Nat → Int32 → Int32 → Option (Int32)
  | 0, _, _ => none
  | fu + 1, y5_51, y6_51 => (if (S (546 : Int32).toNatClampNeg) ≤ y6_51 then (if y5_51 = y1_12 then gd (¬ (((547 : Int32) + ((7 : Int32) * y3_51)) < 0 ∨ 631 ≤ ((547 : Int32) + ((7 : Int32) * y3_51)).toNatClampNeg)) (f_X8_best_J145 r12 S y1_12 y3_51 (S ((547 : Int32) + ((7 : Int32) * y3_51)).toNatClampNeg)) else f_X8_best_J145 r12 S y1_12 y3_51 y2_51) else gd (¬ ((((547 : Int32) + ((7 : Int32) * y6_51)) + (1 : Int32)) < 0 ∨ 631 ≤ (((547 : Int32) + ((7 : Int32) * y6_51)) + (1 : Int32)).toNatClampNeg)) ((f_X8_away (S (((547 : Int32) + ((7 : Int32) * y6_51)) + (1 : Int32)).toNatClampNeg) S).bind fun q9 => (if q9 < y4_51 then f_X8_best_J108 r12 (f_X8_best_L51 r12 S y1_12 y2_51 y3_51 y4_51 fu) S y1_12 y2_51 y3_51 y4_51 y6_51 y5_51 else (if q9 = y4_51 then (if y3_51 ≤ y6_51 then f_X8_best_J112 r12 (f_X8_best_L51 r12 S y1_12 y2_51 y3_51 y4_51 fu) S y1_12 y2_51 y3_51 y4_51 y6_51 y5_51 else f_X8_best_J108 r12 (f_X8_best_L51 r12 S y1_12 y2_51 y3_51 y4_51 fu) S y1_12 y2_51 y3_51 y4_51 y6_51 y5_51) else f_X8_best_J112 r12 (f_X8_best_L51 r12 S y1_12 y2_51 y3_51 y4_51 fu) S y1_12 y2_51 y3_51 y4_51 y6_51 y5_51))))
noncomputable def f_X8_best_L12 (S : Nat → Int32) (y1_12 : Int32) : Nat → Int32 → Int32 → Option (Int32)
  | 0, _, _ => none
  | fu + 1, y2_12, y3_12 => (if (S (546 : Int32).toNatClampNeg) ≤ y3_12 then some y2_12 else gd (¬ ((((547 : Int32) + ((7 : Int32) * y3_12)) + (1 : Int32)) < 0 ∨ 631 ≤ (((547 : Int32) + ((7 : Int32) * y3_12)) + (1 : Int32)).toNatClampNeg)) ((f_X8_away (S (((547 : Int32) + ((7 : Int32) * y3_12)) + (1 : Int32)).toNatClampNeg) S).bind fun q4 => f_X8_best_L51 (f_X8_best_L12 S y1_12 fu) S y1_12 y2_12 y3_12 q4 FU (0 : Int32) (0 : Int32)))
noncomputable def f_X8_best (x1 : Int32) (S : Nat → Int32) : Option (Int32) := (if 0 ≤ x1 then f_X8_best_L12 S x1 FU (-1000004 : Int32) (0 : Int32) else some (-1000001 : Int32))
noncomputable def f_X8_wouldTake_J31 (y1_31 : Int32) (y2_31 : Int32) (S_31 : Nat → Int32) (Tr_31 : Nat → Int32) : Option (Int32 × (Nat → Int32) × (Nat → Int32)) := (f_X8_copies S_31 Tr_31).bind fun q5 => (f_X8_grinds y1_31 y2_31 S_31).bind fun q6 => (f_X8_timeNow q6).bind fun q7 => (f_X8_copies q5 q6).bind fun q8 => some (q7, q8, q5)
noncomputable def f_X8_wouldTake (x1 : Int32) (x2 : Int32) (S : Nat → Int32) (Tr : Nat → Int32) : Option (Int32 × (Nat → Int32) × (Nat → Int32)) := (f_X8_couldGrind x1 x2 S).bind fun q1 => (if 0 ≤ q1 then (if q1 = 0 then (if (S (145 : Int32).toNatClampNeg) = 0 then some ((-1000002 : Int32), S, Tr) else f_X8_wouldTake_J31 x1 x2 S Tr) else f_X8_wouldTake_J31 x1 x2 S Tr) else some (q1, S, Tr))
noncomputable def f_X8_dialFor_J82 (r25 : Int32 → Int32 → Int32 → Option (Int32)) (S : Nat → Int32) (y1_25 : Int32) (y2_25 : Int32) (y3_82 : Int32) (y4_82 : Int32) (y5_82 : Int32) : Option (Int32) := lt (y5_82 + (1 : Int32)) fun v13 => r25 y3_82 y4_82 v13
noncomputable def f_X8_dialFor_J75 (r25 : Int32 → Int32 → Int32 → Option (Int32)) (S : Nat → Int32) (y1_25 : Int32) (y2_25 : Int32) (y5_75 : Int32) (y6_75 : Int32) : Option (Int32) := f_X8_dialFor_J82 r25 S y1_25 y2_25 y5_75 y6_75 y5_75
noncomputable def f_X8_dialFor_L25 (S : Nat → Int32) (y1_25 : Int32) (y2_25 : Int32) : Nat → Int32 → Int32 → Int32 → Option (Int32)
  | 0, _, _, _ => none
  | fu + 1, y3_25, y4_25, y5_25 => (if (60 : Int32) < y5_25 then some y3_25 else gd (¬ (((10 : Int32) + y2_25) < 0 ∨ 631 ≤ ((10 : Int32) + y2_25).toNatClampNeg)) ((f_X8_ofBurr y1_25 (1 : Int32) S).bind fun q7 => (f_X8_gapBy y5_25 q7).bind fun q8 => gd (¬ q8 = 0) ((f_X8_away (((S ((10 : Int32) + y2_25).toNatClampNeg) * (1000 : Int32)) / q8) S).bind fun q10 => (if y4_25 < 0 then f_X8_dialFor_J75 (f_X8_dialFor_L25 S y1_25 y2_25 fu) S y1_25 y2_25 y5_25 q10 else (if y4_25 ≤ q10 then f_X8_dialFor_J82 (f_X8_dialFor_L25 S y1_25 y2_25 fu) S y1_25 y2_25 y3_25 y4_25 y5_25 else f_X8_dialFor_J75 (f_X8_dialFor_L25 S y1_25 y2_25 fu) S y1_25 y2_25 y5_25 q10)))))
noncomputable def f_X8_dialFor (x1 : Int32) (x2 : Int32) (S : Nat → Int32) : Option (Int32) := (f_X8_isOne x1).bind fun q1 => (if q1 = 0 then some (-1000001 : Int32) else (f_X8_isOne x2).bind fun q3 => (if q3 = 0 then some (-1000001 : Int32) else f_X8_dialFor_L25 S x1 x2 FU (1 : Int32) (-1 : Int32) (1 : Int32)))
noncomputable def f_X8_stale_J104 (r30 : Int32 → Int32 → Int32 → Option (Int32)) (S : Nat → Int32) (y1_30 : Int32) (y2_104 : Int32) (y4_104 : Int32) (z0_104 : Int32) : Option (Int32) := lt (y4_104 + (1 : Int32)) fun v16 => r30 y2_104 z0_104 v16
noncomputable def f_X8_stale_J99 (r30 : Int32 → Int32 → Int32 → Option (Int32)) (S : Nat → Int32) (y1_30 : Int32) (y2_99 : Int32) (y4_99 : Int32) : Option (Int32) := f_X8_stale_J104 r30 S y1_30 y2_99 y4_99 y2_99
noncomputable def f_X8_stale_L30 (S : Nat → Int32) (y1_30 : Int32) : Nat → Int32 → Int32 → Int32 → Option (Int32)
  | 0, _, _, _ => none
  | fu + 1, y2_30, y3_30, y4_30 => (if (S (34 : Int32).toNatClampNeg) ≤ y4_30 then some y3_30 else gd (¬ (((35 : Int32) + y4_30) < 0 ∨ 631 ≤ ((35 : Int32) + y4_30).toNatClampNeg)) (lt ((S ((35 : Int32) + y4_30).toNatClampNeg)) fun v6 => (f_X8_amountOf v6).bind fun q7 => lt ((y2_30 + q7)) fun v8 => (f_X8_kindOf v6).bind fun q9 => (if q9 = (S (22 : Int32).toNatClampNeg) then (f_X8_burrIn v6).bind fun q11 => (if q11 = y1_30 then (f_X8_gapOf v6).bind fun q13 => (f_X8_gap y1_30 S).bind fun q14 => (if q13 = q14 then f_X8_stale_J104 (f_X8_stale_L30 S y1_30 fu) S y1_30 v8 y4_30 y3_30 else f_X8_stale_J99 (f_X8_stale_L30 S y1_30 fu) S y1_30 v8 y4_30) else f_X8_stale_J99 (f_X8_stale_L30 S y1_30 fu) S y1_30 v8 y4_30) else f_X8_stale_J99 (f_X8_stale_L30 S y1_30 fu) S y1_30 v8 y4_30)))
noncomputable def f_X8_stale (x1 : Int32) (S : Nat → Int32) : Option (Int32) := (f_X8_isOne x1).bind fun q1 => (if q1 = 0 then some (-1000001 : Int32) else (if (S (21 : Int32).toNatClampNeg) = 0 then some (-1000002 : Int32) else f_X8_stale_L30 S x1 FU (0 : Int32) (0 : Int32) (0 : Int32)))
noncomputable def f_X8_coolAfter_J65 (r31 : Int32 → Int32 → Option (Int32)) (S : Nat → Int32) (y2_31 : Int32) (y3_65 : Int32) (z0_65 : Int32) (z1_65 : Int32) : Option (Int32) := lt ((z1_65 - z0_65)) fun v10 => r31 y3_65 v10
noncomputable def f_X8_coolAfter_L31 (S : Nat → Int32) (y2_31 : Int32) : Nat → Int32 → Int32 → Option (Int32)
  | 0, _, _ => none
  | fu + 1, y3_31, y4_31 => (if y4_31 ≤ y2_31 then some y3_31 else lt (y3_31 + (1 : Int32)) fun v7 => (if (((S (0 : Int32).toNatClampNeg) + v7) - ((S (0 : Int32).toNatClampNeg) + v7) / (10 : Int32) * (10 : Int32)) = 0 then (f_X8_fall y4_31).bind fun q9 => f_X8_coolAfter_J65 (f_X8_coolAfter_L31 S y2_31 fu) S y2_31 v7 q9 y4_31 else f_X8_coolAfter_J65 (f_X8_coolAfter_L31 S y2_31 fu) S y2_31 v7 (0 : Int32) y4_31))
noncomputable def f_X8_coolAfter (x1 : Int32) (x2 : Int32) (S : Nat → Int32) : Option (Int32) := (f_X8_isOne x1).bind fun q1 => (if q1 = 0 then some (-1000001 : Int32) else (f_X8_in x2 (0 : Int32) (300 : Int32)).bind fun q3 => (if q3 = 0 then some (-1000001 : Int32) else (f_X8_ofBurr x1 (1 : Int32) S).bind fun q5 => f_X8_coolAfter_L31 S x2 FU (0 : Int32) q5))
noncomputable def f_X8_count (x1 : Int32) (S : Nat → Int32) (pasts : Int32) (typed : Int32) : Option (Int32) := (if x1 = 0 then gd (¬ (x1 < 0 ∨ 631 ≤ x1.toNatClampNeg)) (some (S x1.toNatClampNeg)) else (if x1 = 1 then gd (¬ (x1 < 0 ∨ 631 ≤ x1.toNatClampNeg)) (some (S x1.toNatClampNeg)) else (if x1 = 2 then gd (¬ (x1 < 0 ∨ 631 ≤ x1.toNatClampNeg)) (some (S x1.toNatClampNeg)) else (if x1 = 3 then gd (¬ (x1 < 0 ∨ 631 ≤ x1.toNatClampNeg)) (some (S x1.toNatClampNeg)) else (if x1 = 4 then gd (¬ (x1 < 0 ∨ 631 ≤ x1.toNatClampNeg)) (some (S x1.toNatClampNeg)) else (if x1 = 5 then (f_X8_hopper S).bind fun q12 => some q12 else (if x1 = 6 then (f_X8_amounts (34 : Int32) (35 : Int32) S).bind fun q14 => some q14 else (if x1 = 7 then (f_X8_amounts (145 : Int32) (146 : Int32) S).bind fun q16 => some q16 else (if x1 = 8 then gd (¬ ((((5 : Int32) + x1) - (8 : Int32)) < 0 ∨ 631 ≤ (((5 : Int32) + x1) - (8 : Int32)).toNatClampNeg)) (some (S (((5 : Int32) + x1) - (8 : Int32)).toNatClampNeg)) else (if x1 = 9 then gd (¬ ((((5 : Int32) + x1) - (8 : Int32)) < 0 ∨ 631 ≤ (((5 : Int32) + x1) - (8 : Int32)).toNatClampNeg)) (some (S (((5 : Int32) + x1) - (8 : Int32)).toNatClampNeg)) else (if x1 = 10 then some pasts else (if x1 = 11 then some typed else (f_X8_in x1 (20 : Int32) (25 : Int32)).bind fun q23 => (if q23 = 0 then some (-1000001 : Int32) else gd (¬ ((((7 : Int32) + x1) - (20 : Int32)) < 0 ∨ 631 ≤ (((7 : Int32) + x1) - (20 : Int32)).toNatClampNeg)) (some (S (((7 : Int32) + x1) - (20 : Int32)).toNatClampNeg)))))))))))))))
noncomputable def f_X8_undo_L22 (P : Nat → Int32) : Nat → Int32 → (Nat → Int32) → Int32 → Option (Int32 × (Nat → Int32) × Int32)
  | 0, _, _, _ => none
  | fu + 1, y1_22, S_22, pasts_22 => (if (631 : Int32) ≤ y1_22 then some (pasts_22, S_22, pasts_22) else gd (¬ ((((631 : Int32) * pasts_22) + y1_22) < 0 ∨ 2524 ≤ (((631 : Int32) * pasts_22) + y1_22).toNatClampNeg)) (lt ((P (((631 : Int32) * pasts_22) + y1_22).toNatClampNeg)) fun v5 => gd (¬ (y1_22 < 0 ∨ 631 ≤ y1_22.toNatClampNeg)) (lt (upd S_22 y1_22.toNatClampNeg v5) fun Z7 => lt (y1_22 + (1 : Int32)) fun v8 => (f_X8_undo_L22 P fu) v8 Z7 pasts_22)))
noncomputable def f_X8_undo (S : Nat → Int32) (P : Nat → Int32) (pasts : Int32) : Option (Int32 × (Nat → Int32) × Int32) := (if pasts = 0 then some ((-1000002 : Int32), S, pasts) else lt ((pasts - (1 : Int32))) fun v2 => f_X8_undo_L22 P FU (0 : Int32) S v2)
noncomputable def f_X8_type (x1 : Int32) (Tx : Nat → Int32) (typed : Int32) : Option (Int32 × (Nat → Int32) × Int32) := (f_X8_in x1 (32 : Int32) (126 : Int32)).bind fun q1 => (if q1 = 0 then some ((-1000001 : Int32), Tx, typed) else (if typed = (60 : Int32) then some ((-1000003 : Int32), Tx, typed) else gd (¬ (typed < 0 ∨ 60 ≤ typed.toNatClampNeg)) (lt (upd Tx typed.toNatClampNeg x1) fun Z5 => lt ((typed + (1 : Int32))) fun v6 => some (v6, Z5, v6))))
noncomputable def f_X8_clearText (typed : Int32) : Option (Int32 × Int32) := some (typed, (0 : Int32))
noncomputable def f_X8_isAt (x1 : Int32) (x2 : Int32) (Tx : Nat → Int32) (typed : Int32) (spot : Int32) : Option (Int32) := (if typed ≤ spot then some (0 : Int32) else gd (¬ (spot < 0 ∨ 60 ≤ spot.toNatClampNeg)) ((f_X8_in (Tx spot.toNatClampNeg) x1 x2).bind fun q3 => (if q3 = 0 then some (0 : Int32) else some (1 : Int32))))
noncomputable def f_X8_sign_J21 (Tx : Nat → Int32) (typed : Int32) (y2_21 : Int32) (z0_21 : Int32) (z1_21 : Int32) (spot_21 : Int32) : Option (Int32 × Int32) := lt ((z1_21 + z0_21)) fun v3 => gd (y2_21 = 0 ∨ y2_21 = 1) (some (y2_21, v3))
noncomputable def f_X8_sign (x1 : Int32) (Tx : Nat → Int32) (typed : Int32) (spot : Int32) : Option (Int32 × Int32) := (f_X8_isAt x1 x1 Tx typed spot).bind fun q1 => (if q1 = 0 then f_X8_sign_J21 Tx typed q1 (0 : Int32) spot spot else f_X8_sign_J21 Tx typed q1 (1 : Int32) spot spot)
noncomputable def f_X8_number_J74 (Tx : Nat → Int32) (typed : Int32) (y2_74 : Int32) (told_74 : Nat → Int32) (spot_74 : Int32) : Option (Int32 × (Nat → Int32) × Int32) := (if spot_74 ≤ y2_74 then some ((0 : Int32), told_74, spot_74) else some ((1 : Int32), told_74, spot_74))
noncomputable def f_X8_number_L12 (Tx : Nat → Int32) (typed : Int32) (y1_12 : Int32) (y2_12 : Int32) : Nat → (Nat → Int32) → Int32 → Option (Int32 × (Nat → Int32) × Int32)
  | 0, _, _ => none
  | fu + 1, told_12, spot_12 => (f_X8_isAt (48 : Int32) (57 : Int32) Tx typed spot_12).bind fun q3 => (if q3 = 0 then f_X8_number_J74 Tx typed y2_12 told_12 spot_12 else (if (3 : Int32) ≤ (spot_12 - y2_12) then f_X8_number_J74 Tx typed y2_12 told_12 spot_12 else gd (¬ (y1_12 < 0 ∨ 2 ≤ y1_12.toNatClampNeg)) (gd (¬ (spot_12 < 0 ∨ 60 ≤ spot_12.toNatClampNeg)) (lt (((((10 : Int32) * (told_12 y1_12.toNatClampNeg)) + (Tx spot_12.toNatClampNeg)) - (48 : Int32))) fun v8 => gd (¬ (y1_12 < 0 ∨ 2 ≤ y1_12.toNatClampNeg)) (lt (upd told_12 y1_12.toNatClampNeg v8) fun Z10 => lt ((spot_12 + (1 : Int32))) fun v11 => (f_X8_number_L12 Tx typed y1_12 y2_12 fu) Z10 v11)))))
noncomputable def f_X8_number (x1 : Int32) (Tx : Nat → Int32) (told : Nat → Int32) (typed : Int32) (spot : Int32) : Option (Int32 × (Nat → Int32) × Int32) := gd (¬ (x1 < 0 ∨ 2 ≤ x1.toNatClampNeg)) (lt (upd told x1.toNatClampNeg (0 : Int32)) fun Z2 => f_X8_number_L12 Tx typed x1 spot FU Z2 spot)
noncomputable def f_X8_reads_J154 (Tx : Nat → Int32) (typed : Int32) (told_154 : Nat → Int32) (spot_154 : Int32) (ordr_154 : Int32) : Option (Int32 × (Nat → Int32) × Int32 × Int32) := (f_X8_sign (59 : Int32) Tx typed spot_154).bind fun q23 => (if q23.1 = 0 then some ((0 : Int32), told_154, q23.2, ordr_154) else some ((1 : Int32), told_154, q23.2, ordr_154))
noncomputable def f_X8_reads_J104 (Tx : Nat → Int32) (typed : Int32) (y1_104 : Int32) (y2_104 : Int32) (told_104 : Nat → Int32) (spot_104 : Int32) (ordr_104 : Int32) : Option (Int32 × (Nat → Int32) × Int32 × Int32) := lt ((spot_104 + (1 : Int32))) fun v12 => (if y2_104 = 0 then (f_X8_number (0 : Int32) Tx told_104 typed v12).bind fun q14 => (if q14.1 = 0 then some ((0 : Int32), q14.2.1, q14.2.2, ordr_104) else (if y1_104 = 0 then f_X8_reads_J154 Tx typed q14.2.1 q14.2.2 ordr_104 else (f_X8_sign (44 : Int32) Tx typed q14.2.2).bind fun q17 => (if q17.1 = 0 then some ((0 : Int32), q14.2.1, q17.2, ordr_104) else (f_X8_number (1 : Int32) Tx q14.2.1 typed q17.2).bind fun q19 => (if q19.1 = 0 then some ((0 : Int32), q19.2.1, q19.2.2, ordr_104) else f_X8_reads_J154 Tx typed q19.2.1 q19.2.2 ordr_104)))) else (f_X8_sign (59 : Int32) Tx typed v12).bind fun q21 => gd (q21.1 = 0 ∨ q21.1 = 1) (some (q21.1, told_104, q21.2, ordr_104)))
noncomputable def f_X8_reads_J84 (Tx : Nat → Int32) (typed : Int32) (y1_84 : Int32) (z0_84 : Int32) (told_84 : Nat → Int32) (spot_84 : Int32) (ordr_84 : Int32) : Option (Int32 × (Nat → Int32) × Int32 × Int32) := (if y1_84 = 0 then (if z0_84 = 0 then (if ordr_84 = (119 : Int32) then f_X8_reads_J104 Tx typed y1_84 z0_84 told_84 spot_84 ordr_84 else some ((0 : Int32), told_84, spot_84, ordr_84)) else f_X8_reads_J104 Tx typed y1_84 z0_84 told_84 spot_84 ordr_84) else f_X8_reads_J104 Tx typed y1_84 z0_84 told_84 spot_84 ordr_84)
noncomputable def f_X8_reads_J79 (Tx : Nat → Int32) (typed : Int32) (y1_79 : Int32) (told_79 : Nat → Int32) (spot_79 : Int32) (ordr_79 : Int32) : Option (Int32 × (Nat → Int32) × Int32 × Int32) := f_X8_reads_J84 Tx typed y1_79 (1 : Int32) told_79 spot_79 ordr_79
noncomputable def f_X8_reads_J60 (Tx : Nat → Int32) (typed : Int32) (z0_60 : Int32) (told_60 : Nat → Int32) (spot_60 : Int32) (ordr_60 : Int32) : Option (Int32 × (Nat → Int32) × Int32 × Int32) := (if ordr_60 = (115 : Int32) then f_X8_reads_J79 Tx typed z0_60 told_60 spot_60 ordr_60 else (if ordr_60 = (112 : Int32) then f_X8_reads_J79 Tx typed z0_60 told_60 spot_60 ordr_60 else f_X8_reads_J84 Tx typed z0_60 (0 : Int32) told_60 spot_60 ordr_60))
noncomputable def f_X8_reads_J55 (Tx : Nat → Int32) (typed : Int32) (told_55 : Nat → Int32) (spot_55 : Int32) (ordr_55 : Int32) : Option (Int32 × (Nat → Int32) × Int32 × Int32) := f_X8_reads_J60 Tx typed (1 : Int32) told_55 spot_55 ordr_55
noncomputable def f_X8_reads_J25 (Tx : Nat → Int32) (typed : Int32) (z0_25 : Int32) (told_25 : Nat → Int32) (spot_25 : Int32) (ordr_25 : Int32) : Option (Int32 × (Nat → Int32) × Int32 × Int32) := (if z0_25 = (102 : Int32) then f_X8_reads_J55 Tx typed told_25 spot_25 z0_25 else (if z0_25 = (103 : Int32) then f_X8_reads_J55 Tx typed told_25 spot_25 z0_25 else (if z0_25 = (98 : Int32) then f_X8_reads_J55 Tx typed told_25 spot_25 z0_25 else f_X8_reads_J60 Tx typed (0 : Int32) told_25 spot_25 z0_25)))
noncomputable def f_X8_reads (Tx : Nat → Int32) (told : Nat → Int32) (typed : Int32) (spot : Int32) (ordr : Int32) : Option (Int32 × (Nat → Int32) × Int32 × Int32) := (f_X8_isAt (33 : Int32) (126 : Int32) Tx typed spot).bind fun q1 => (if q1 = 0 then f_X8_reads_J25 Tx typed (0 : Int32) told spot ordr else gd (¬ (spot < 0 ∨ 60 ≤ spot.toNatClampNeg)) (f_X8_reads_J25 Tx typed (Tx spot.toNatClampNeg) told spot ordr))
noncomputable def f_X8_calls (S : Nat → Int32) (P : Nat → Int32) (told : Nat → Int32) (pasts : Int32) (runs : Int32) (ordr : Int32) : Option (Int32 × (Nat → Int32) × (Nat → Int32) × Int32) := (if ordr = 98 then (f_X8_dial (told (0 : Int32).toNatClampNeg) (told (1 : Int32).toNatClampNeg) S P pasts runs).bind fun q2 => some (q2.1, q2.2.1, q2.2.2.1, q2.2.2.2) else (if ordr = 102 then (f_X8_fill (told (0 : Int32).toNatClampNeg) (told (1 : Int32).toNatClampNeg) S P pasts runs).bind fun q4 => some (q4.1, q4.2.1, q4.2.2.1, q4.2.2.2) else (if ordr = 103 then (f_X8_grind (told (0 : Int32).toNatClampNeg) (told (1 : Int32).toNatClampNeg) S P pasts runs).bind fun q6 => some (q6.1, q6.2.1, q6.2.2.1, q6.2.2.2) else (if ordr = 115 then (f_X8_shot S P pasts runs).bind fun q8 => some (q8.1, q8.2.1, q8.2.2.1, q8.2.2.2) else (if ordr = 119 then (f_X8_rest (told (0 : Int32).toNatClampNeg) S P pasts runs).bind fun q10 => some (q10.1, q10.2.1, q10.2.2.1, q10.2.2.2) else (f_X8_purge S P pasts runs).bind fun q11 => some (q11.1, q11.2.1, q11.2.2.1, q11.2.2.2))))))
noncomputable def f_X8_plays_J124 (Tx : Nat → Int32) (typed : Int32) (y1_124 : Int32) (S_124 : Nat → Int32) (P_124 : Nat → Int32) (told_124 : Nat → Int32) (pasts_124 : Int32) (runs_124 : Int32) (spot_124 : Int32) (frm_124 : Int32) (reas_124 : Int32) (caus_124 : Int32) (ords_124 : Int32) (ordr_124 : Int32) : Option (Int32 × (Nat → Int32) × (Nat → Int32) × (Nat → Int32) × Int32 × Int32 × Int32 × Int32 × Int32 × Int32 × Int32 × Int32) := gd (y1_124 = 0 ∨ y1_124 = 1) (some (y1_124, S_124, P_124, told_124, pasts_124, (0 : Int32), spot_124, frm_124, reas_124, caus_124, ords_124, ordr_124))
noncomputable def f_X8_plays_J108 (r22 : Int32 → (Nat → Int32) → (Nat → Int32) → (Nat → Int32) → Int32 → Int32 → Int32 → Int32 → Int32 → Int32 → Int32 → Int32 → Option (Int32 × (Nat → Int32) × (Nat → Int32) × (Nat → Int32) × Int32 × Int32 × Int32 × Int32 × Int32 × Int32 × Int32 × Int32)) (Tx : Nat → Int32) (typed : Int32) (y1_108 : Int32) (z0_108 : Int32) (S_108 : Nat → Int32) (P_108 : Nat → Int32) (told_108 : Nat → Int32) (pasts_108 : Int32) (runs_108 : Int32) (spot_108 : Int32) (frm_108 : Int32) (reas_108 : Int32) (caus_108 : Int32) (ords_108 : Int32) (ordr_108 : Int32) : Option (Int32 × (Nat → Int32) × (Nat → Int32) × (Nat → Int32) × Int32 × Int32 × Int32 × Int32 × Int32 × Int32 × Int32 × Int32) := lt ((ords_108 + (1 : Int32))) fun v11 => r22 y1_108 S_108 P_108 told_108 pasts_108 runs_108 spot_108 frm_108 reas_108 z0_108 v11 ordr_108
noncomputable def f_X8_plays_J87 (r22 : Int32 → (Nat → Int32) → (Nat → Int32) → (Nat → Int32) → Int32 → Int32 → Int32 → Int32 → Int32 → Int32 → Int32 → Int32 → Option (Int32 × (Nat → Int32) × (Nat → Int32) × (Nat → Int32) × Int32 × Int32 × Int32 × Int32 × Int32 × Int32 × Int32 × Int32)) (Tx : Nat → Int32) (typed : Int32) (y1_87 : Int32) (y2_87 : Int32) (y3_87 : Int32) (z0_87 : Int32) (S_87 : Nat → Int32) (P_87 : Nat → Int32) (told_87 : Nat → Int32) (pasts_87 : Int32) (runs_87 : Int32) (spot_87 : Int32) (frm_87 : Int32) (reas_87 : Int32) (caus_87 : Int32) (ords_87 : Int32) (ordr_87 : Int32) : Option (Int32 × (Nat → Int32) × (Nat → Int32) × (Nat → Int32) × Int32 × Int32 × Int32 × Int32 × Int32 × Int32 × Int32 × Int32) := (if y2_87 = 0 then f_X8_plays_J108 r22 Tx typed y1_87 (spot_87 - frm_87) S_87 P_87 told_87 pasts_87 runs_87 spot_87 frm_87 z0_87 caus_87 ords_87 ordr_87 else f_X8_plays_J108 r22 Tx typed y1_87 y3_87 S_87 P_87 told_87 pasts_87 runs_87 spot_87 frm_87 z0_87 caus_87 ords_87 ordr_87)
noncomputable def f_X8_plays_J76 (r22 : Int32 → (Nat → Int32) → (Nat → Int32) → (Nat → Int32) → Int32 → Int32 → Int32 → Int32 → Int32 → Int32 → Int32 → Int32 → Option (Int32 × (Nat → Int32) × (Nat → Int32) × (Nat → Int32) × Int32 × Int32 × Int32 × Int32 × Int32 × Int32 × Int32 × Int32)) (Tx : Nat → Int32) (typed : Int32) (y2_76 : Int32) (y3_76 : Int32) (z0_76 : Int32) (S_76 : Nat → Int32) (P_76 : Nat → Int32) (told_76 : Nat → Int32) (pasts_76 : Int32) (runs_76 : Int32) (spot_76 : Int32) (frm_76 : Int32) (reas_76 : Int32) (caus_76 : Int32) (ords_76 : Int32) (ordr_76 : Int32) : Option (Int32 × (Nat → Int32) × (Nat → Int32) × (Nat → Int32) × Int32 × Int32 × Int32 × Int32 × Int32 × Int32 × Int32 × Int32) := (if y2_76 = 0 then f_X8_plays_J87 r22 Tx typed z0_76 y2_76 y3_76 (1 : Int32) S_76 P_76 told_76 pasts_76 runs_76 spot_76 frm_76 reas_76 caus_76 ords_76 ordr_76 else f_X8_plays_J87 r22 Tx typed z0_76 y2_76 y3_76 (2 : Int32) S_76 P_76 told_76 pasts_76 runs_76 spot_76 frm_76 reas_76 caus_76 ords_76 ordr_76)
noncomputable def f_X8_plays_J75 (r22 : Int32 → (Nat → Int32) → (Nat → Int32) → (Nat → Int32) → Int32 → Int32 → Int32 → Int32 → Int32 → Int32 → Int32 → Int32 → Option (Int32 × (Nat → Int32) × (Nat → Int32) × (Nat → Int32) × Int32 × Int32 × Int32 × Int32 × Int32 × Int32 × Int32 × Int32)) (Tx : Nat → Int32) (typed : Int32) (y2_75 : Int32) (y3_75 : Int32) (S_75 : Nat → Int32) (P_75 : Nat → Int32) (told_75 : Nat → Int32) (pasts_75 : Int32) (runs_75 : Int32) (spot_75 : Int32) (frm_75 : Int32) (reas_75 : Int32) (caus_75 : Int32) (ords_75 : Int32) (ordr_75 : Int32) : Option (Int32 × (Nat → Int32) × (Nat → Int32) × (Nat → Int32) × Int32 × Int32 × Int32 × Int32 × Int32 × Int32 × Int32 × Int32) := f_X8_plays_J76 r22 Tx typed y2_75 y3_75 (0 : Int32) S_75 P_75 told_75 pasts_75 runs_75 spot_75 frm_75 reas_75 caus_75 ords_75 ordr_75
noncomputable def f_X8_plays_J62 (r22 : Int32 → (Nat → Int32) → (Nat → Int32) → (Nat → Int32) → Int32 → Int32 → Int32 → Int32 → Int32 → Int32 → Int32 → Int32 → Option (Int32 × (Nat → Int32) × (Nat → Int32) × (Nat → Int32) × Int32 × Int32 × Int32 × Int32 × Int32 × Int32 × Int32 × Int32)) (Tx : Nat → Int32) (typed : Int32) (y2_62 : Int32) (z0_62 : Int32) (S_62 : Nat → Int32) (P_62 : Nat → Int32) (told_62 : Nat → Int32) (pasts_62 : Int32) (runs_62 : Int32) (spot_62 : Int32) (frm_62 : Int32) (reas_62 : Int32) (caus_62 : Int32) (ords_62 : Int32) (ordr_62 : Int32) : Option (Int32 × (Nat → Int32) × (Nat → Int32) × (Nat → Int32) × Int32 × Int32 × Int32 × Int32 × Int32 × Int32 × Int32 × Int32) := (if y2_62 = 0 then f_X8_plays_J75 r22 Tx typed y2_62 z0_62 S_62 P_62 told_62 pasts_62 runs_62 spot_62 frm_62 reas_62 caus_62 ords_62 ordr_62 else (if z0_62 < 0 then f_X8_plays_J75 r22 Tx typed y2_62 z0_62 S_62 P_62 told_62 pasts_62 runs_62 spot_62 frm_62 reas_62 caus_62 ords_62 ordr_62 else f_X8_plays_J76 r22 Tx typed y2_62 z0_62 (1 : Int32) S_62 P_62 told_62 pasts_62 runs_62 spot_62 frm_62 reas_62 caus_62 ords_62 ordr_62))
noncomputable def f_X8_plays_L22 (Tx : Nat → Int32) (typed : Int32) : Nat → Int32 → (Nat → Int32) → (Nat → Int32) → (Nat → Int32) → Int32 → Int32 → Int32 → Int32 → Int32 → Int32 → Int32 → Int32 → Option (Int32 × (Nat → Int32) × (Nat → Int32) × (Nat → Int32) × Int32 × Int32 × Int32 × Int32 × Int32 × Int32 × Int32 × Int32)
  | 0, _, _, _, _, _, _, _, _, _, _, _, _ => none
  | fu + 1, y1_22, S_22, P_22, told_22, pasts_22, runs_22, spot_22, frm_22, reas_22, caus_22, ords_22, ordr_22 => (if typed ≤ spot_22 then f_X8_plays_J124 Tx typed y1_22 S_22 P_22 told_22 pasts_22 runs_22 spot_22 frm_22 reas_22 caus_22 ords_22 ordr_22 else (if y1_22 = 0 then f_X8_plays_J124 Tx typed y1_22 S_22 P_22 told_22 pasts_22 runs_22 spot_22 frm_22 reas_22 caus_22 ords_22 ordr_22 else (f_X8_reads Tx told_22 typed spot_22 ordr_22).bind fun q3 => (if q3.1 = 0 then f_X8_plays_J62 (f_X8_plays_L22 Tx typed fu) Tx typed q3.1 (0 : Int32) S_22 P_22 q3.2.1 pasts_22 runs_22 q3.2.2.1 spot_22 reas_22 caus_22 ords_22 q3.2.2.2 else (f_X8_calls S_22 P_22 q3.2.1 pasts_22 runs_22 q3.2.2.2).bind fun q5 => f_X8_plays_J62 (f_X8_plays_L22 Tx typed fu) Tx typed q3.1 q5.1 q5.2.1 q5.2.2.1 q3.2.1 q5.2.2.2 runs_22 q3.2.2.1 spot_22 reas_22 caus_22 ords_22 q3.2.2.2)))
noncomputable def f_X8_plays (S : Nat → Int32) (P : Nat → Int32) (Tx : Nat → Int32) (told : Nat → Int32) (pasts : Int32) (runs : Int32) (typed : Int32) (spot : Int32) (frm : Int32) (reas : Int32) (caus : Int32) (ords : Int32) (ordr : Int32) : Option (Int32 × (Nat → Int32) × (Nat → Int32) × (Nat → Int32) × Int32 × Int32 × Int32 × Int32 × Int32 × Int32 × Int32 × Int32) := f_X8_plays_L22 Tx typed FU (1 : Int32) S P told pasts (1 : Int32) (0 : Int32) (0 : Int32) reas caus (0 : Int32) ordr
noncomputable def f_X8_fault (x1 : Int32) (S : Nat → Int32) (P : Nat → Int32) (Hd : Nat → Int32) (Tx : Nat → Int32) (told : Nat → Int32) (pasts : Int32) (runs : Int32) (typed : Int32) (spot : Int32) (frm : Int32) (reas : Int32) (caus : Int32) (ords : Int32) (ordr : Int32) : Option (Int32 × (Nat → Int32) × (Nat → Int32) × (Nat → Int32) × (Nat → Int32) × Int32 × Int32 × Int32 × Int32 × Int32 × Int32 × Int32 × Int32) := (f_X8_in x1 (0 : Int32) (2 : Int32)).bind fun q1 => (if q1 = 0 then some ((-1000001 : Int32), S, P, Hd, told, pasts, runs, spot, frm, reas, caus, ords, ordr) else (f_X8_copies S Hd).bind fun q3 => (f_X8_plays S P Tx told pasts runs typed spot frm reas caus ords ordr).bind fun q4 => (f_X8_copies q3 q4.2.1).bind fun q5 => (if q4.1 = 0 then (if x1 = 0 then some (q4.2.2.2.2.2.2.2.1, q5, q4.2.2.1, q3, q4.2.2.2.1, q4.2.2.2.2.1, q4.2.2.2.2.2.1, q4.2.2.2.2.2.2.1, q4.2.2.2.2.2.2.2.1, q4.2.2.2.2.2.2.2.2.1, q4.2.2.2.2.2.2.2.2.2.1, q4.2.2.2.2.2.2.2.2.2.2.1, q4.2.2.2.2.2.2.2.2.2.2.2) else (if x1 = (1 : Int32) then some (q4.2.2.2.2.2.2.2.2.1, q5, q4.2.2.1, q3, q4.2.2.2.1, q4.2.2.2.2.1, q4.2.2.2.2.2.1, q4.2.2.2.2.2.2.1, q4.2.2.2.2.2.2.2.1, q4.2.2.2.2.2.2.2.2.1, q4.2.2.2.2.2.2.2.2.2.1, q4.2.2.2.2.2.2.2.2.2.2.1, q4.2.2.2.2.2.2.2.2.2.2.2) else some (q4.2.2.2.2.2.2.2.2.2.1, q5, q4.2.2.1, q3, q4.2.2.2.1, q4.2.2.2.2.1, q4.2.2.2.2.2.1, q4.2.2.2.2.2.2.1, q4.2.2.2.2.2.2.2.1, q4.2.2.2.2.2.2.2.2.1, q4.2.2.2.2.2.2.2.2.2.1, q4.2.2.2.2.2.2.2.2.2.2.1, q4.2.2.2.2.2.2.2.2.2.2.2))) else some ((-1000004 : Int32), q5, q4.2.2.1, q3, q4.2.2.2.1, q4.2.2.2.2.1, q4.2.2.2.2.2.1, q4.2.2.2.2.2.2.1, q4.2.2.2.2.2.2.2.1, q4.2.2.2.2.2.2.2.2.1, q4.2.2.2.2.2.2.2.2.2.1, q4.2.2.2.2.2.2.2.2.2.2.1, q4.2.2.2.2.2.2.2.2.2.2.2)))
noncomputable def f_X8_play (S : Nat → Int32) (P : Nat → Int32) (Hd : Nat → Int32) (Tx : Nat → Int32) (told : Nat → Int32) (pasts : Int32) (runs : Int32) (typed : Int32) (spot : Int32) (frm : Int32) (reas : Int32) (caus : Int32) (ords : Int32) (ordr : Int32) : Option (Int32 × (Nat → Int32) × (Nat → Int32) × (Nat → Int32) × (Nat → Int32) × Int32 × Int32 × Int32 × Int32 × Int32 × Int32 × Int32 × Int32) := (f_X8_copies S Hd).bind fun q1 => (f_X8_plays S P Tx told pasts runs typed spot frm reas caus ords ordr).bind fun q2 => (f_X8_copies q1 q2.2.1).bind fun q3 => (if q2.1 = 0 then some ((-1000002 : Int32), q3, q2.2.2.1, q1, q2.2.2.2.1, q2.2.2.2.2.1, q2.2.2.2.2.2.1, q2.2.2.2.2.2.2.1, q2.2.2.2.2.2.2.2.1, q2.2.2.2.2.2.2.2.2.1, q2.2.2.2.2.2.2.2.2.2.1, q2.2.2.2.2.2.2.2.2.2.2.1, q2.2.2.2.2.2.2.2.2.2.2.2) else (f_X8_changes q3 q2.2.2.1 q2.2.2.2.2.1 q2.2.2.2.2.2.1).bind fun q5 => (f_X8_plays q3 q5.1 Tx q2.2.2.2.1 q5.2 q2.2.2.2.2.2.1 typed q2.2.2.2.2.2.2.1 q2.2.2.2.2.2.2.2.1 q2.2.2.2.2.2.2.2.2.1 q2.2.2.2.2.2.2.2.2.2.1 q2.2.2.2.2.2.2.2.2.2.2.1 q2.2.2.2.2.2.2.2.2.2.2.2).bind fun q6 => (if q6.1 = 0 then some ((-1000004 : Int32), q6.2.1, q6.2.2.1, q1, q6.2.2.2.1, q6.2.2.2.2.1, q6.2.2.2.2.2.1, q6.2.2.2.2.2.2.1, q6.2.2.2.2.2.2.2.1, q6.2.2.2.2.2.2.2.2.1, q6.2.2.2.2.2.2.2.2.2.1, q6.2.2.2.2.2.2.2.2.2.2.1, q6.2.2.2.2.2.2.2.2.2.2.2) else some (q6.2.2.2.2.2.2.2.2.2.2.1, q6.2.1, q6.2.2.1, q1, q6.2.2.2.1, q6.2.2.2.2.1, q6.2.2.2.2.2.1, q6.2.2.2.2.2.2.1, q6.2.2.2.2.2.2.2.1, q6.2.2.2.2.2.2.2.2.1, q6.2.2.2.2.2.2.2.2.2.1, q6.2.2.2.2.2.2.2.2.2.2.1, q6.2.2.2.2.2.2.2.2.2.2.2)))
end
section
/-! numbers: what the leaves answer -/
theorem fa_lit (n : Nat) : (OfNat.ofNat n : Int32) = nI n := rfl
theorem fa_L {n : Nat} : (OfNat.ofNat n : Int32) = nI (OfNat.ofNat n) := rfl
theorem fa_and (a b : Nat) : nI a &&& nI b = nI (a &&& b) := by
  apply Int32.toBitVec_inj.1
  show BitVec.ofNat 32 a &&& BitVec.ofNat 32 b = BitVec.ofNat 32 (a &&& b)
  apply BitVec.eq_of_getLsbD_eq
  intro i hi
  simp [hi]
theorem fa_or (a b : Nat) : nI a ||| nI b = nI (a ||| b) := by
  apply Int32.toBitVec_inj.1
  show BitVec.ofNat 32 a ||| BitVec.ofNat 32 b = BitVec.ofNat 32 (a ||| b)
  apply BitVec.eq_of_getLsbD_eq
  intro i hi
  simp [hi]
theorem fa_mask (n k : Nat) : nI n &&& nI (2 ^ k - 1) = nI (n % 2 ^ k) := by rw [fa_and, Nat.and_two_pow_sub_one_eq_mod]
theorem fa_or_sum {a k : Nat} (b : Nat) (h : a < 2 ^ k) : nI (2 ^ k * b) ||| nI a = nI (2 ^ k * b + a) := by rw [fa_or, Nat.two_pow_add_eq_or_of_lt h]
theorem nI_inj {a b : Nat} (h : a = b) : nI a = nI b := congrArg nI h
theorem so_inj {α : Type} {a b : α} (h : a = b) : some a = some b := congrArg some h
/-- how much the warmth falls -/
def fl (w : Nat) : Nat := if w = 0 then 0 else if w < 16 then 1 else w / 16
/-- a flow -/
def fw (h g : Nat) : Nat := if g < 10 then 0 else h * 1000 / g
/-- a gap -/
def gp (d w : Nat) : Nat := max 10 (10 * d - w / 5)
/-- cooled n times -/
def cl : Nat → Nat → Nat
  | 0, w => w
  | n + 1, w => cl n (w - fl w)
/-- how many coolings until t at most -/
def ct : Nat → Nat → Nat → Nat
  | 0, _, _ => 0
  | n + 1, w, t => if t < w then 1 + ct n (w - fl w) t else 0
/-- a corrected dial -/
def cor (d t g : Nat) : Nat := max 1 (min 60 ((d * t + g / 2) / g))
theorem fl_le (w : Nat) : fl w ≤ w := by unfold fl; split; omega; split <;> omega
theorem fl_pos {w : Nat} (h : 0 < w) : 1 ≤ fl w := by
  unfold fl
  rw [if_neg (by omega)]
  split <;> omega
theorem p_is01 (x : Int32) : f_X7_isZeroOrOne x = some (if x = 0 ∨ x = 1 then 1 else 0) := by
  rw [f_X7_isZeroOrOne, f_X7_isZeroOrOne_J9]
  by_cases h0 : x = 0
  · simp [h0]
  · by_cases h1 : x = 1 <;> simp [h0, h1]
theorem p_fall {w : Nat} (h : w < 2 ^ 31) : f_X7_fallOf (nI w) = some (nI (fl w)) := by
  rw [f_X7_fallOf]
  simp (disch := omega) only [fa_lit, nI_leI, pk_div, lt_v]
  unfold fl
  by_cases h0 : w = 0
  · simp [h0, nI_0]
  · by_cases h1 : w < 16
    · rw [if_pos (by omega), if_neg (by omega), if_neg h0, if_pos h1]
    · rw [if_pos (by omega), if_pos (by omega), if_neg h0, if_neg h1]
theorem p_flow {h g : Nat} (hh : h ≤ 300) (hg : g < 2 ^ 30) : f_X7_flowOf (nI h) (nI g) = some (nI (fw h g)) := by
  rw [f_X7_flowOf]
  unfold fw
  by_cases h1 : g < 10
  · simp (disch := omega) only [fa_lit, nI_leI]
    rw [if_neg (by omega), if_pos h1]
  · simp (disch := omega) only [fa_lit, nI_leI, nI_eq, pk_mul, pk_div]
    rw [if_pos (by omega), gd_t (by omega), if_neg h1]
theorem p_mark {k b g : Nat} (hk : k < 2) (hb : b < 2) (hg : g < 2 ^ 20) : f_X7_markOf (nI k) (nI b) (nI g) = some (nI (4 * g + 2 * b + k)) := by
  have hs : nI g <<< ((2 : Int32) &&& 31) = nI (g * 2 ^ 2) := pk_shlN _ 2 (by decide) (by omega)
  have o1 : ∀ a, a < 4 → nI (g * 2 ^ 2) ||| nI a = nI (4 * g + a) := fun a ha => by
    rw [Nat.mul_comm]
    exact fa_or_sum (k := 2) g ha
  have o2 : nI (4 * g + 2) ||| nI 1 = nI (4 * g + 3) := by
    have := fa_or_sum (k := 1) (2 * g + 1) (a := 1) (by decide)
    rw [show 2 ^ 1 * (2 * g + 1) = 4 * g + 2 by omega] at this
    exact this
  have o3 : nI (4 * g) ||| nI 1 = nI (4 * g + 1) := fa_or_sum (k := 2) g (by decide)
  have o4 : ∀ n, nI n ||| nI 0 = nI n := fun n => by rw [fa_or, Nat.or_zero]
  rw [f_X7_markOf, f_X7_markOf_J12, f_X7_markOf_J12]
  simp only [f_X7_markOf_J22, lt_v, hs]
  have hk' : k = 0 ∨ k = 1 := by omega
  have hb' : b = 0 ∨ b = 1 := by omega
  rcases hk' with rfl | rfl <;> rcases hb' with rfl | rfl
  · simp only [fa_lit, if_pos]
    rw [o1 0 (by decide), o4]
  · rw [if_neg (by decide), if_pos (by decide)]
    simp only [fa_lit]
    rw [o1 2 (by decide), o4]
  · rw [if_pos (by decide), if_neg (by decide)]
    simp only [fa_lit]
    rw [o1 0 (by decide), Nat.add_zero, o3]
  · rw [if_neg (by decide), if_neg (by decide)]
    simp only [fa_lit]
    rw [o1 2 (by decide), o2]
theorem p_kindOf (m : Nat) : f_X7_kindOfMark (nI m) = some (nI (m % 2)) := by
  rw [f_X7_kindOfMark]
  exact so_inj (fa_mask m 1)
theorem fa_and2 (m : Nat) : nI m &&& (2 : Int32) = nI (m / 2 % 2 * 2) := by
  show nI m &&& nI 2 = _
  rw [fa_and]
  refine nI_inj ?_
  apply Nat.eq_of_testBit_eq
  intro i
  rw [Nat.testBit_and, show (2 : Nat) = 2 ^ 1 by decide, Nat.testBit_two_pow, Nat.mul_comm, Nat.testBit_two_pow_mul]
  rcases Nat.lt_or_ge i 1 with q | q
  · have : i = 0 := by omega
    subst this
    simp
  · by_cases e : i = 1
    · subst e
      simp [Nat.testBit, Nat.shiftRight_eq_div_pow]
    · have hlt : m / 2 % 2 < 2 ^ (i - 1) := Nat.lt_of_lt_of_le (Nat.mod_lt _ (by decide)) (by
        have : 2 ^ 1 ≤ 2 ^ (i - 1) := Nat.pow_le_pow_right (by decide) (by omega)
        omega)
      rw [show (2 : Nat) ^ 1 = 2 by decide, Nat.testBit_lt_two_pow hlt]
      simp [Ne.symm e]
theorem p_burrOf {m : Nat} (h : m < 2 ^ 31) : f_X7_burrOfMark (nI m) = some (nI (m / 2 % 2)) := by
  rw [f_X7_burrOfMark, fa_and2, pk_shrN (by omega) _ 1 (by decide)]
  exact so_inj (nI_inj (by omega))
theorem p_gapOf {m : Nat} (h : m < 2 ^ 31) : f_X7_gapOfMark (nI m) = some (nI (m / 4)) := by
  rw [f_X7_gapOfMark, pk_shrN h _ 2 (by decide)]
theorem p_gapAt {d w : Nat} (hd : d < 2 ^ 20) (hw : w < 2 ^ 20) : f_X0_gapAt (nI d) (nI w) = some (nI (gp d w)) := by
  rw [f_X0_gapAt]
  unfold gp
  simp (disch := omega) only [fa_lit, pk_mul, pk_div, lt_v]
  by_cases h : w / 5 ≤ 10 * d
  · rw [pk_sub h]
    by_cases h2 : 10 < 10 * d - w / 5
    · rw [if_pos (nI_lt h2 (by omega))]
      exact so_inj (nI_inj (by omega))
    · rw [if_neg (nI_nlt (by omega) (by omega))]
      exact so_inj (nI_inj (by omega))
  · have hn : nI (10 * d) - nI (w / 5) < 0 := pk_sneg (by omega) (by omega)
    rw [if_neg (fun q => ?_)]
    · exact so_inj (nI_inj (by omega))
    · rw [Int32.lt_iff_toInt_lt] at hn q
      rw [nI_toInt (by decide)] at q
      rw [Int32.toInt_zero] at hn
      omega
theorem p_gap {d w : Nat} (hd : d < 2 ^ 20) (hw : w < 2 ^ 20) : f_X0_gap (nI d) (nI w) = some (nI (gp d w)) := by
  rw [f_X0_gap, p_gapAt hd hw]
  rfl
theorem p_warm {a w : Nat} (ha : a < 2 ^ 20) (hw : w < 2 ^ 20) (g : Int32) : f_X0_warmByGrinding (nI a) (nI w) g = some (nI (min 300 (w + a / 4)), g + nI a) := by
  rw [f_X0_warmByGrinding]
  simp (disch := omega) only [fa_lit, pk_div, nI_add, nI_ltI, lt_v]
  by_cases h : w + a / 4 < 300
  · rw [if_pos h]
    exact so_inj (Prod.ext (nI_inj (by show _ = _; omega)) rfl)
  · rw [if_neg h]
    exact so_inj (Prod.ext (nI_inj (by show _ = _; omega)) rfl)
theorem cl_zero : ∀ n, cl n 0 = 0
  | 0 => rfl
  | n + 1 => cl_zero n
theorem p_cool_L {T : Nat} (hT : T < 2 ^ 30) : ∀ (w i fuel : Nat), w ≤ 300 → w < fuel → i < 2 ^ 30 → f_X0_cool_L2 (nI T) fuel (nI i) (nI w) = some (nI (cl (T - i) w)) := by
  intro w
  induction w using Nat.strongRecOn with
  | _ w ih =>
    intro i fuel hw hf hi
    obtain ⟨fu, rfl⟩ : ∃ fu, fuel = fu + 1 := ⟨fuel - 1, by omega⟩
    rw [f_X0_cool_L2]
    by_cases h1 : T ≤ i
    · rw [if_pos (nI_le h1 (by omega)), show T - i = 0 by omega]
      rfl
    · rw [if_neg (nI_ge (by omega) (by omega))]
      by_cases h2 : w = 0
      · subst h2
        rw [if_pos (by rw [nI_0]; exact Int32.le_refl 0), cl_zero]
      · rw [if_neg (nI_nle (by omega) (by omega)), p_fall (by omega)]
        have hl := fl_le w
        have hp := fl_pos (w := w) (by omega)
        simp only [Option.bind_some, lt_v]
        rw [pk_sub hl, fa_lit, nI_add, ih (w - fl w) (by omega) (i + 1) fu (by omega) (by omega) (by omega)]
        obtain ⟨k, hk⟩ : ∃ k, T - i = k + 1 := ⟨T - i - 1, by omega⟩
        rw [show T - (i + 1) = k by omega, hk]
        rfl
theorem p_cool {T w : Nat} (hT : T < 2 ^ 30) (hw : w ≤ 300) : f_X0_cool (nI T) (nI w) = some (nI (cl T w)) := by
  rw [f_X0_cool]
  have := p_cool_L hT w 0 FU hw (by show w < 20000; omega) (by omega)
  rw [nI_0] at this
  exact this
theorem p_coolings_L {t : Nat} (ht : t < 2 ^ 30) (w0 : Int32) : ∀ (w i fuel : Nat), w + i ≤ 300 → w < fuel → f_X0_coolingsTo_L7 w0 (nI t) fuel (nI i) (nI w) = some (nI (i + ct (300 - i) w t)) := by
  intro w
  induction w using Nat.strongRecOn with
  | _ w ih =>
    intro i fuel hw hf
    obtain ⟨fu, rfl⟩ : ∃ fu, fuel = fu + 1 := ⟨fuel - 1, by omega⟩
    rw [f_X0_coolingsTo_L7]
    by_cases h1 : w ≤ t
    · rw [if_pos (nI_le h1 (by omega))]
      cases hk : 300 - i with
      | zero => rfl
      | succ k => rw [ct, if_neg (by omega)]; rfl
    · rw [if_neg (nI_ge (by omega) (by omega)), if_neg (by rw [fa_lit 300]; exact nI_ge (by omega) (by decide)), p_fall (by omega)]
      have hl := fl_le w
      have hp := fl_pos (w := w) (by omega)
      simp only [Option.bind_some, lt_v]
      rw [pk_sub hl, fa_lit, nI_add, ih (w - fl w) (by omega) (i + 1) fu (by omega) (by omega)]
      obtain ⟨k, hk⟩ : ∃ k, 300 - i = k + 1 := ⟨300 - i - 1, by omega⟩
      rw [show 300 - (i + 1) = k by omega, hk, ct, if_pos (by omega)]
      exact so_inj (nI_inj (by omega))
theorem p_coolings {t w : Nat} (ht : t < 2 ^ 30) (hw : w ≤ 300) : f_X0_coolingsTo (nI t) (nI w) = some (nI (ct 300 w t)) := by
  rw [f_X0_coolingsTo]
  have := p_coolings_L ht (nI w) w 0 FU (by omega) (by show w < 20000; omega)
  rw [nI_0, Nat.zero_add] at this
  exact this
theorem p_correct {d t g : Nat} (hd : d ≤ 60) (ht : t ≤ 30000) (hg : 100 ≤ g) (hg2 : g ≤ 600) (k : Int32) : f_X0_correctBy (nI t) (nI g) (nI d) k = some (nI (cor d t g), k + 1) := by
  have hdt : d * t ≤ 60 * 30000 := Nat.mul_le_mul hd ht
  rw [f_X0_correctBy]
  unfold cor
  generalize hm : d * t = m at hdt ⊢
  rw [pk_mul, hm]
  have hq : (m + g / 2) / g ≤ m + g / 2 := Nat.div_le_self _ _
  generalize hz : (m + g / 2) / g = z at hq ⊢
  rw [fa_lit 1, fa_lit 2, fa_lit 60, if_pos (nI_lt (by omega) (by omega)), lt_v, gd_t (nI_ne0 (by omega) (by omega)), pk_div (by omega) (by decide) (by decide), nI_add, pk_div (by omega) (by omega) (by omega), hz, lt_v]
  by_cases h1 : z < 60
  · rw [if_pos (nI_lt h1 (by decide)), lt_v]
    by_cases h2 : 1 < z
    · rw [if_pos (nI_lt h2 (by omega)), lt_v, lt_v]
      exact so_inj (Prod.ext (nI_inj (by show _ = _; omega)) rfl)
    · rw [if_neg (nI_nlt (by omega) (by decide)), lt_v, lt_v]
      exact so_inj (Prod.ext (nI_inj (by show _ = _; omega)) rfl)
  · rw [if_neg (nI_nlt (by omega) (by omega)), lt_v, if_pos (nI_lt (by decide) (by decide)), lt_v, lt_v]
    exact so_inj (Prod.ext (nI_inj (by show _ = _; omega)) rfl)
end
section
/-! rows of amounts with marks, as lists -/
def tot : List (Nat × Nat) → Nat
  | [] => 0
  | p :: L => p.1 + tot L
def lk (L : List (Nat × Nat)) (k : Nat) : Nat × Nat := L.getD k (0, 0)
theorem lk_0 (p : Nat × Nat) (L : List (Nat × Nat)) : lk (p :: L) 0 = p := rfl
theorem lk_s (p : Nat × Nat) (L : List (Nat × Nat)) (k : Nat) : lk (p :: L) (k + 1) = lk L k := rfl
theorem lk_l {L K : List (Nat × Nat)} {k : Nat} (h : k < L.length) : lk (L ++ K) k = lk L k := by
  unfold lk
  rw [List.getD_eq_getElem?_getD, List.getD_eq_getElem?_getD, List.getElem?_append_left h]
theorem lk_r {L K : List (Nat × Nat)} {k : Nat} : lk (L ++ K) (L.length + k) = lk K k := by
  unfold lk
  rw [List.getD_eq_getElem?_getD, List.getD_eq_getElem?_getD, List.getElem?_append_right (by omega)]
  congr 2
  omega
theorem lk_m {L : List (Nat × Nat)} {k : Nat} (h : k < L.length) : lk L k ∈ L := by
  unfold lk
  rw [List.getD_eq_getElem?_getD, List.getElem?_eq_getElem h]
  exact List.getElem_mem h
theorem tot_app (L K : List (Nat × Nat)) : tot (L ++ K) = tot L + tot K := by
  induction L with
  | nil => simp [tot]
  | cons p L ih => simp only [List.cons_append, tot, ih]; omega
/-- what an object of a row holds -/
def rowR (L : List (Nat × Nat)) (A M : Nat → Int32) (n t : Int32) : Prop := n = nI L.length ∧ t = nI (tot L) ∧ ∀ k : Nat, k < L.length → A k = nI (lk L k).1 ∧ M k = nI (lk L k).2
theorem rowR_nil (A M : Nat → Int32) : rowR [] A M 0 0 := ⟨rfl, rfl, fun k h => absurd h (Nat.not_lt_zero k)⟩
/-- amounts of 1 at least, all small -/
def okR (L : List (Nat × Nat)) : Prop := ∀ p ∈ L, 1 ≤ p.1 ∧ p.1 ≤ 4000 ∧ p.2 < 4096
theorem okR_c {p : Nat × Nat} {L : List (Nat × Nat)} (h : okR (p :: L)) : (1 ≤ p.1 ∧ p.1 ≤ 4000 ∧ p.2 < 4096) ∧ okR L := ⟨h p List.mem_cons_self, fun q hq => h q (List.mem_cons_of_mem _ hq)⟩
theorem okR_cc {p : Nat × Nat} {L : List (Nat × Nat)} (h : 1 ≤ p.1 ∧ p.1 ≤ 4000 ∧ p.2 < 4096) (h2 : okR L) : okR (p :: L) := fun q hq => by
  rcases List.mem_cons.mp hq with rfl | hq
  · exact h
  · exact h2 q hq
theorem okR_app {L K : List (Nat × Nat)} (h : okR L) (h2 : okR K) : okR (L ++ K) := fun q hq => by
  rcases List.mem_append.mp hq with hq | hq
  · exact h q hq
  · exact h2 q hq
theorem len_tot {L : List (Nat × Nat)} (h : okR L) : L.length ≤ tot L := by
  induction L with
  | nil => exact Nat.le_refl 0
  | cons p L ih =>
    have h2 := ih (okR_c h).2
    have h1 := (okR_c h).1.1
    simp only [List.length_cons, tot]
    omega
theorem p_append {N a mk : Nat} {L : List (Nat × Nat)} {A M : Nat → Int32} {n t : Int32} (h : rowR L A M n t) (hN : L.length < N) (hN2 : N < 2 ^ 30) : ∃ A' M' : Nat → Int32, f_X5_append N (nI a) (nI mk) A M n t = some (A', M', nI (L.length + 1), nI (tot L + a)) ∧ rowR (L ++ [(a, mk)]) A' M' (nI (L.length + 1)) (nI (tot L + a)) := by
  obtain ⟨rfl, rfl, hk⟩ := h
  have hg := nI_in (c := L.length) (N := N) hN (by omega)
  refine ⟨upd A L.length (nI a), upd M L.length (nI mk), ?_, ?_, ?_, ?_⟩
  · rw [f_X5_append, if_neg (nI_ge hN (by omega))]
    simp only [gd_t hg, lt_v]
    simp only [nI_clamp (show L.length < 2 ^ 31 by omega), fa_L, nI_add]
  · rw [List.length_append]; rfl
  · rw [tot_app]; rfl
  · intro k hk2
    rw [List.length_append, List.length_singleton] at hk2
    by_cases e : k = L.length
    · subst e
      have := lk_r (L := L) (K := [(a, mk)]) (k := 0)
      rw [Nat.add_zero] at this
      rw [this, lk_0]
      exact ⟨pk_us, pk_us⟩
    · rw [lk_l (by omega), pk_un e, pk_un e]
      exact hk k (by omega)
theorem p_addToLast {N a : Nat} {L : List (Nat × Nat)} {A M : Nat → Int32} {n t : Int32} {b mk : Nat} (h : rowR (L ++ [(b, mk)]) A M n t) (hN : L.length < N) (hN2 : N < 2 ^ 30) : ∃ A' : Nat → Int32, f_X5_addToLast N (nI a) A n t = some (A', nI (tot (L ++ [(b + a, mk)]))) ∧ rowR (L ++ [(b + a, mk)]) A' M n (nI (tot (L ++ [(b + a, mk)]))) := by
  obtain ⟨rfl, rfl, hk⟩ := h
  have hlen : (L ++ [(b, mk)]).length = L.length + 1 := by rw [List.length_append]; rfl
  rw [hlen] at hk ⊢
  have hg := nI_in (c := L.length) (N := N) hN (by omega)
  have hl := hk L.length (by omega)
  have hr := lk_r (L := L) (K := [(b, mk)]) (k := 0)
  rw [Nat.add_zero, lk_0] at hr
  rw [hr] at hl
  have ht : tot (L ++ [(b + a, mk)]) = tot (L ++ [(b, mk)]) + a := by
    rw [tot_app, tot_app]; simp only [tot]; omega
  refine ⟨upd A L.length (nI (b + a)), ?_, ?_, rfl, ?_⟩
  · rw [f_X5_addToLast, if_neg (nI_nle (by omega) (by omega)), fa_L, pk_sub (by omega), Nat.add_sub_cancel]
    simp only [gd_t hg, lt_v]
    simp only [nI_clamp (show L.length < 2 ^ 31 by omega), hl.1, nI_add, ht]
  · rw [List.length_append]; rfl
  · intro k hk2
    rw [List.length_append, List.length_singleton] at hk2
    by_cases e : k = L.length
    · subst e
      have := lk_r (L := L) (K := [(b + a, mk)]) (k := 0)
      rw [Nat.add_zero] at this
      rw [this, lk_0]
      exact ⟨pk_us, hl.2⟩
    · rw [lk_l (by omega), pk_un e]
      have := hk k (by omega)
      rw [lk_l (by omega)] at this
      exact this
theorem p_amountAt {N k : Nat} {L : List (Nat × Nat)} {A M : Nat → Int32} {n t : Int32} (h : rowR L A M n t) (hN : L.length ≤ N) (hN2 : N < 2 ^ 30) (hk : k < L.length) : f_X5_amountAt N (nI k) A n = some (nI (lk L k).1) := by
  obtain ⟨rfl, rfl, hh⟩ := h
  have hg := nI_in (c := k) (N := N) (by omega) (by omega)
  rw [f_X5_amountAt, if_neg (nI_pos (by omega)), if_pos (nI_lt hk (by omega)), gd_t hg, nI_clamp (by omega), (hh k hk).1]
theorem p_markAt {N k : Nat} {L : List (Nat × Nat)} {A M : Nat → Int32} {n t : Int32} (h : rowR L A M n t) (hN : L.length ≤ N) (hN2 : N < 2 ^ 30) (hk : k < L.length) : f_X5_markAt N (nI k) M n = some (nI (lk L k).2) := by
  obtain ⟨rfl, rfl, hh⟩ := h
  have hg := nI_in (c := k) (N := N) (by omega) (by omega)
  rw [f_X5_markAt, if_neg (nI_pos (by omega)), if_pos (nI_lt hk (by omega)), gd_t hg, nI_clamp (by omega), (hh k hk).2]
theorem p_dropFirst {N e : Nat} {L : List (Nat × Nat)} {A M : Nat → Int32} (hN : e + L.length ≤ N) (hN2 : N < 2 ^ 30) (hh : ∀ k : Nat, k < L.length → A (e + k) = nI (lk L k).1 ∧ M (e + k) = nI (lk L k).2) : ∃ A' M' : Nat → Int32, f_X5_dropFirst N (nI e) A M (nI (e + L.length)) = some (A', M', nI L.length) ∧ rowR L A' M' (nI L.length) (nI (tot L)) := by
  have hg : ¬ nI e < 0 ∧ ¬ (0 : Int32) < 0 ∧ ¬ nI L.length < 0 ∧ (nI e).toNatClampNeg + (nI L.length).toNatClampNeg ≤ N ∧ (0 : Int32).toNatClampNeg + (nI L.length).toNatClampNeg ≤ N := by
    rw [nI_clamp (by omega), nI_clamp (by omega)]
    exact ⟨nI_pos (by omega), by decide, nI_pos (by omega), hN, by show 0 + _ ≤ _; omega⟩
  refine ⟨va_cpy A A e 0 L.length, va_cpy M M e 0 L.length, ?_, rfl, rfl, ?_⟩
  · rw [f_X5_dropFirst, pk_sub (by omega), Nat.add_sub_cancel_left]
    simp only [gd_t hg, lt_v]
    simp only [nI_clamp (show e < 2 ^ 31 by omega), nI_clamp (show L.length < 2 ^ 31 by omega)]
    rfl
  · intro k hk
    rw [pk_cpy_in (Nat.zero_le _) (by omega), pk_cpy_in (Nat.zero_le _) (by omega)]
    exact hh k hk
/-- the earliest ones go, l altogether: what goes, what stays -/
def tk : Nat → List (Nat × Nat) → List (Nat × Nat) × List (Nat × Nat)
  | _, [] => ([], [])
  | l, p :: L => if l = 0 then ([], p :: L) else if l < p.1 then ([(l, p.2)], (p.1 - l, p.2) :: L) else ((p.1, p.2) :: (tk (l - p.1) L).1, (tk (l - p.1) L).2)
theorem tk_0 (L : List (Nat × Nat)) : tk 0 L = ([], L) := by
  cases L with
  | nil => rfl
  | cons p L => rw [tk, if_pos rfl]
theorem tk_tot : ∀ (L : List (Nat × Nat)) (l : Nat), tot (tk l L).1 = min l (tot L) ∧ tot (tk l L).2 = tot L - l
  | [], l => by simp [tk, tot]
  | p :: L, l => by
    rw [tk]
    split
    · simp only [tot]; omega
    · split
      · simp only [tot]; omega
      · have h := tk_tot L (l - p.1)
        simp only [tot, h.1, h.2]
        omega
theorem tk_ok : ∀ {L : List (Nat × Nat)} (l : Nat), okR L → okR (tk l L).1 ∧ okR (tk l L).2
  | [], l, h => ⟨h, h⟩
  | p :: L, l, h => by
    have h1 := (okR_c h).1
    have h2 := (okR_c h).2
    rw [tk]
    split
    · exact ⟨fun q hq => (by cases hq), h⟩
    · split
      · exact ⟨okR_cc (by simp only; omega) (fun q hq => (by cases hq)), okR_cc (by simp only; omega) h2⟩
      · have h3 := tk_ok (l - p.1) h2
        exact ⟨okR_cc h1 h3.1, h3.2⟩
theorem tk_len : ∀ (L : List (Nat × Nat)) (l : Nat), (tk l L).1.length ≤ L.length ∧ (tk l L).2.length ≤ L.length
  | [], l => ⟨Nat.le_refl _, Nat.le_refl _⟩
  | p :: L, l => by
    rw [tk]
    split
    · exact ⟨Nat.zero_le _, Nat.le_refl _⟩
    · split
      · simp only [List.length_cons, List.length_nil]; omega
      · have h := tk_len L (l - p.1)
        simp only [List.length_cons]
        omega
/-- marks changed on the way -/
def mk2 (g : Nat → Nat) (L : List (Nat × Nat)) : List (Nat × Nat) := L.map (fun p => (p.1, g p.2))
theorem mk2_tot (g : Nat → Nat) (L : List (Nat × Nat)) : tot (mk2 g L) = tot L := by
  induction L with
  | nil => rfl
  | cons p L ih => show p.1 + tot (mk2 g L) = _; rw [ih]; rfl
theorem mk2_len (g : Nat → Nat) (L : List (Nat × Nat)) : (mk2 g L).length = L.length := List.length_map _
theorem app1 {α : Type} (L : List α) (x : α) (K : List α) : L ++ [x] ++ K = L ++ x :: K := by simp
theorem p_letL {N N2 : Nat} {y2 : Int32} {g : Nat → Nat} (hN : N < 2 ^ 30) (hN2 : N2 < 2 ^ 30) (y1 t : Int32) : ∀ (Lr : List (Nat × Nat)) (l i fuel : Nat) (A M A2 M2 : Nat → Int32) (n2 t2 : Int32) (L2 : List (Nat × Nat)), okR Lr → l < 2 ^ 30 → (∀ k : Nat, k < Lr.length → A (i + k) = nI (lk Lr k).1 ∧ M (i + k) = nI (lk Lr k).2) → i + Lr.length ≤ N → rowR L2 A2 M2 n2 t2 → L2.length + (tk l Lr).1.length ≤ N2 → Lr.length < fuel → (∀ p ∈ Lr, nI p.2 ||| y2 = nI (g p.2)) →
    ∃ (A' A2' M2' : Nat → Int32) (e : Nat), f_X5_letOut_L9 N N2 y1 y2 fuel (nI l) (nI i) (nI i) A M (nI (i + Lr.length)) t A2 M2 n2 t2 = f_X5_letOut_J90 N N2 y1 (nI (l - tot Lr)) (nI e) A' M (nI (i + Lr.length)) t A2' M2' (nI (L2 ++ mk2 g (tk l Lr).1).length) (nI (tot (L2 ++ mk2 g (tk l Lr).1))) ∧ rowR (L2 ++ mk2 g (tk l Lr).1) A2' M2' (nI (L2 ++ mk2 g (tk l Lr).1).length) (nI (tot (L2 ++ mk2 g (tk l Lr).1))) ∧ e + (tk l Lr).2.length = i + Lr.length ∧ ∀ k : Nat, k < (tk l Lr).2.length → A' (e + k) = nI (lk (tk l Lr).2 k).1 ∧ M (e + k) = nI (lk (tk l Lr).2 k).2 := by
  intro Lr
  induction Lr with
  | nil =>
    intro l i fuel A M A2 M2 n2 t2 L2 hok hl hA hi hr hn2 hf hg
    obtain ⟨fu, rfl⟩ : ∃ fu, fuel = fu + 1 := ⟨fuel - 1, by omega⟩
    obtain ⟨rfl, rfl, hr3⟩ := hr
    refine ⟨A, A2, M2, i, ?_, ?_, rfl, fun k h => absurd h (Nat.not_lt_zero k)⟩
    · rw [f_X5_letOut_L9, if_pos (show nI (i + ([] : List (Nat × Nat)).length) ≤ nI i from nI_le (Nat.le_refl _) (by omega))]
      simp only [tk, mk2, List.map_nil, List.append_nil, tot, Nat.sub_zero]
    · simp only [tk, mk2, List.map_nil, List.append_nil]
      exact ⟨rfl, rfl, hr3⟩
  | cons p Lr ih =>
    intro l i fuel A M A2 M2 n2 t2 L2 hok hl hA hi hr hn2 hf hg
    obtain ⟨fu, rfl⟩ : ∃ fu, fuel = fu + 1 := ⟨fuel - 1, by omega⟩
    simp only [List.length_cons] at hi hf ⊢
    obtain ⟨hp, hok2⟩ := okR_c hok
    by_cases h0 : l = 0
    · subst h0
      obtain ⟨rfl, rfl, hr3⟩ := hr
      refine ⟨A, A2, M2, i, ?_, ?_, ?_, ?_⟩
      · rw [f_X5_letOut_L9, if_neg (nI_ge (by omega) (by omega)), if_pos (by rw [nI_0]; exact Int32.le_refl 0)]
        simp only [tk, if_pos, mk2, List.map_nil, List.append_nil, Nat.zero_sub]
      · simp only [tk, if_pos, mk2, List.map_nil, List.append_nil]
        exact ⟨rfl, rfl, hr3⟩
      · simp only [tk, if_pos, List.length_cons]
      · simp only [tk, if_pos]
        exact hA
    · have hgi := nI_in (c := i) (N := N) (by omega) (by omega)
      have hA0 := hA 0 (by simp)
      rw [Nat.add_zero, lk_0] at hA0
      have hm := hg p List.mem_cons_self
      by_cases h1 : l < p.1
      · -- a part of the first goes
        rw [tk, if_neg h0, if_pos h1] at hn2 ⊢
        simp only [List.length_cons, List.length_nil] at hn2
        obtain ⟨A3, M3, e3, hr3⟩ := p_append (a := l) (mk := g p.2) hr (by omega) hN2
        refine ⟨upd A i (nI (p.1 - l)), A3, M3, i, ?_, ?_, ?_, ?_⟩
        · rw [f_X5_letOut_L9, if_neg (nI_ge (by omega) (by omega)), if_neg (nI_nle (by omega) (by omega))]
          simp only [gd_t hgi, lt_v]
          simp only [nI_clamp (show i < 2 ^ 31 by omega), hA0.1, hA0.2, hm]
          rw [if_neg (nI_nlt (by omega) (by omega)), e3]
          simp only [Option.bind_some, pk_us, f_X5_letOut_J84, lt_v]
          rw [pk_sub (by omega), if_neg (nI_ne0 (by omega) (by omega)), pk_sub (Nat.le_refl _), fa_L, nI_add, Nat.sub_self]
          obtain ⟨fu2, rfl⟩ : ∃ fu2, fu = fu2 + 1 := ⟨fu - 1, by omega⟩
          rw [f_X5_letOut_L9]
          have e1 : l - tot (p :: Lr) = 0 := by simp only [tot]; omega
          have e2 : (L2 ++ mk2 g [(l, p.2)]).length = L2.length + 1 := by rw [List.length_append]; rfl
          have e4 : tot (L2 ++ mk2 g [(l, p.2)]) = tot L2 + l := by rw [tot_app]; rfl
          rw [e1, e2, e4]
          by_cases h2 : Lr.length = 0
          · rw [if_pos (nI_le (by omega) (by omega))]
          · rw [if_neg (nI_ge (by omega) (by omega)), if_pos (by rw [nI_0]; exact Int32.le_refl 0)]
        · have e2 : (L2 ++ mk2 g [(l, p.2)]).length = L2.length + 1 := by rw [List.length_append]; rfl
          have e4 : tot (L2 ++ mk2 g [(l, p.2)]) = tot L2 + l := by rw [tot_app]; rfl
          rw [e2, e4]
          exact hr3
        · simp only [List.length_cons]
        · intro k hk
          cases k with
          | zero =>
            rw [Nat.add_zero, lk_0, pk_us]
            exact ⟨rfl, hA0.2⟩
          | succ k =>
            rw [lk_s, pk_un (by omega)]
            have := hA (k + 1) (by simp only [List.length_cons] at hk ⊢; omega)
            rw [lk_s] at this
            exact this
      · -- all of the first goes
        rw [tk, if_neg h0, if_neg h1] at hn2 ⊢
        simp only [List.length_cons] at hn2
        obtain ⟨A3, M3, e3, hr3⟩ := p_append (a := p.1) (mk := g p.2) hr (by omega) hN2
        obtain ⟨A', A2', M2', e, h5, h6, h7, h8⟩ := ih (l - p.1) (i + 1) fu (upd A i (nI 0)) M A3 M3 _ _ (L2 ++ [(p.1, g p.2)]) hok2 (by omega) (fun k hk => by
          have := hA (k + 1) (by simp only [List.length_cons]; omega)
          rw [lk_s] at this
          rw [pk_un (by omega), show i + 1 + k = i + (k + 1) by omega]
          exact this) (by omega) hr3 (by rw [List.length_append]; simp only [List.length_singleton]; omega) (by omega) (fun q hq => hg q (List.mem_cons_of_mem _ hq))
        have e6 : L2 ++ [(p.1, g p.2)] ++ mk2 g (tk (l - p.1) Lr).1 = L2 ++ mk2 g ((p.1, p.2) :: (tk (l - p.1) Lr).1) := app1 _ _ _
        rw [e6] at h5 h6
        rw [show i + 1 + Lr.length = i + (Lr.length + 1) by omega] at h5
        refine ⟨A', A2', M2', e, ?_, h6, ?_, h8⟩
        · rw [f_X5_letOut_L9, if_neg (nI_ge (by omega) (by omega)), if_neg (nI_nle (by omega) (by omega))]
          simp only [gd_t hgi, lt_v]
          simp only [nI_clamp (show i < 2 ^ 31 by omega), hA0.1, hA0.2, hm]
          have e7 : (if nI p.1 < nI l then nI p.1 else nI l) = nI p.1 := by
            by_cases h2 : p.1 < l
            · rw [if_pos (nI_lt h2 (by omega))]
            · rw [if_neg (nI_nlt (by omega) (by omega))]
              exact nI_inj (by omega)
          rw [e7, e3]
          simp only [Option.bind_some, pk_us, f_X5_letOut_J84, lt_v]
          rw [pk_sub (Nat.le_refl _), Nat.sub_self, if_pos nI_0, pk_sub (by omega), fa_L, nI_add, h5]
          rw [show l - p.1 - tot Lr = l - tot (p :: Lr) by simp only [tot]; omega]
        · show e + (tk (l - p.1) Lr).2.length = _
          omega
theorem p_letOut {N N2 l : Nat} {y2 : Int32} {g : Nat → Nat} {L L2 : List (Nat × Nat)} {A M A2 M2 : Nat → Int32} {n t n2 t2 : Int32} (hN : N < 20000) (hN2 : N2 < 2 ^ 30) (hok : okR L) (hr : rowR L A M n t) (hr2 : rowR L2 A2 M2 n2 t2) (hl : l ≤ tot L) (ht : tot L < 2 ^ 30) (hn : L.length ≤ N) (hn2 : L2.length + (tk l L).1.length ≤ N2) (hg : ∀ p ∈ L, nI p.2 ||| y2 = nI (g p.2)) :
    ∃ R, f_X5_letOut N N2 (nI l) y2 A M n t A2 M2 n2 t2 = some R ∧ rowR (tk l L).2 R.1 R.2.1 R.2.2.1 R.2.2.2.1 ∧ rowR (L2 ++ mk2 g (tk l L).1) R.2.2.2.2.1 R.2.2.2.2.2.1 R.2.2.2.2.2.2.1 R.2.2.2.2.2.2.2 := by
  obtain ⟨rfl, rfl, hA⟩ := hr
  obtain ⟨A', A2', M2', e, h5, h6, h7, h8⟩ := p_letL (N := N) (N2 := N2) (y2 := y2) (g := g) (by omega) hN2 (nI l) (nI (tot L)) L l 0 FU A M A2 M2 n2 t2 L2 hok (by omega) (fun k hk => by rw [Nat.zero_add]; exact hA k hk) (by omega) hr2 hn2 (by show _ < 20000; omega) hg
  rw [Nat.zero_add] at h5 h7
  obtain ⟨A3, M3, h9, h10⟩ := p_dropFirst (N := N) (e := e) (L := (tk l L).2) (A := A') (M := M) (by omega) (by omega) h8
  rw [h7] at h9
  have ht2 := (tk_tot L l).2
  refine ⟨(A3, M3, nI (tk l L).2.length, nI (tot (tk l L).2), A2', M2', _, _), ?_, h10, h6⟩
  rw [f_X5_letOut, ← nI_0, h5, f_X5_letOut_J90, h9]
  simp only [lt_v, Option.bind_some]
  rw [show l - tot L = 0 by omega, pk_sub (Nat.zero_le _), Nat.sub_zero, pk_sub hl, ht2]
  rfl
end
section
/-! the rest of a row's and the hopper's methods -/
theorem p_copyRow {N : Nat} {L : List (Nat × Nat)} {A M A2 M2 : Nat → Int32} {n t n2 t2 : Int32} (hr : rowR L A2 M2 n2 t2) (hn : L.length ≤ N) (hN : N < 2 ^ 30) : ∃ R, f_X5_copyFrom N N A M n t A2 M2 n2 t2 = some R ∧ rowR L R.1 R.2.1 R.2.2.1 R.2.2.2 := by
  obtain ⟨rfl, rfl, hk⟩ := hr
  have e : (if nI N < nI L.length then nI N else nI L.length) = nI L.length := if_neg (nI_nlt hn (by omega))
  have hg : ¬ (0 : Int32) < 0 ∧ ¬ (0 : Int32) < 0 ∧ ¬ nI L.length < 0 ∧ (0 : Int32).toNatClampNeg + (nI L.length).toNatClampNeg ≤ N ∧ (0 : Int32).toNatClampNeg + (nI L.length).toNatClampNeg ≤ N := by
    rw [nI_clamp (by omega)]
    exact ⟨by decide, by decide, nI_pos (by omega), by show 0 + _ ≤ _; omega, by show 0 + _ ≤ _; omega⟩
  refine ⟨(va_cpy A2 A 0 0 L.length, va_cpy M2 M 0 0 L.length, nI L.length, nI (tot L)), ?_, rfl, rfl, ?_⟩
  · rw [f_X5_copyFrom, e]
    simp only [lt_v, gd_t hg]
    simp only [nI_clamp (show L.length < 2 ^ 31 by omega)]
    rfl
  · intro k h
    show va_cpy A2 A 0 0 L.length k = _ ∧ va_cpy M2 M 0 0 L.length k = _
    rw [pk_cpy_in (Nat.zero_le _) (by omega), pk_cpy_in (Nat.zero_le _) (by omega), Nat.zero_add, Nat.sub_zero]
    exact hk k h
/-- how much of it satisfies b -/
def sumIf (b : Nat → Bool) : List (Nat × Nat) → Nat
  | [] => 0
  | p :: L => (if b p.2 then p.1 else 0) + sumIf b L
theorem sumIf_le (b : Nat → Bool) : ∀ L, sumIf b L ≤ tot L
  | [] => Nat.le_refl 0
  | p :: L => by
    have := sumIf_le b L
    simp only [sumIf, tot]
    split <;> omega
theorem p_mostly_L {N : Nat} {y1 : Int32} {b : Nat → Bool} {A M : Nat → Int32} {T : Nat} (hN : N < 2 ^ 30) (hT : T < 2 ^ 30) : ∀ (Lr : List (Nat × Nat)) (i h fuel : Nat), (∀ k : Nat, k < Lr.length → A (i + k) = nI (lk Lr k).1 ∧ M (i + k) = nI (lk Lr k).2) → i + Lr.length ≤ N → Lr.length < fuel → (∀ p ∈ Lr, (nI p.2 &&& y1 = 0 ↔ b p.2 = false)) → h + tot Lr ≤ T →
    f_X5_isMostly_L4 N A M (nI (i + Lr.length)) (nI T) y1 fuel (nI h) (nI i) = some (if T < 2 * (h + sumIf b Lr) then 1 else 0) := by
  intro Lr
  induction Lr with
  | nil =>
    intro i h fuel hA hi hf hb hh
    obtain ⟨fu, rfl⟩ : ∃ fu, fuel = fu + 1 := ⟨fuel - 1, by omega⟩
    simp only [tot, List.length_nil] at hh hi
    rw [f_X5_isMostly_L4, if_pos (show nI (i + ([] : List (Nat × Nat)).length) ≤ nI i from nI_le (Nat.le_refl _) (by omega)), pk_sub (by omega)]
    rw [show h + sumIf b [] = h from Nat.add_zero h]
    by_cases q : T < 2 * h
    · rw [if_neg (nI_ge (by omega) (by omega)), if_pos q]
    · rw [if_pos (nI_le (by omega) (by omega)), if_neg q]
  | cons p Lr ih =>
    intro i h fuel hA hi hf hb hh
    obtain ⟨fu, rfl⟩ : ∃ fu, fuel = fu + 1 := ⟨fuel - 1, by omega⟩
    simp only [List.length_cons] at hi hf ⊢
    simp only [tot] at hh
    have hgi := nI_in (c := i) (N := N) (by omega) (by omega)
    have hA0 := hA 0 (by simp)
    rw [Nat.add_zero, lk_0] at hA0
    have hA1 : ∀ k : Nat, k < Lr.length → A (i + 1 + k) = nI (lk Lr k).1 ∧ M (i + 1 + k) = nI (lk Lr k).2 := fun k hk => by
      have := hA (k + 1) (by simp only [List.length_cons]; omega)
      rw [lk_s, show i + (k + 1) = i + 1 + k by omega] at this
      exact this
    have hb1 := hb p List.mem_cons_self
    rw [f_X5_isMostly_L4, if_neg (nI_ge (by omega) (by omega))]
    simp only [gd_t hgi, lt_v]
    simp only [nI_clamp (show i < 2 ^ 31 by omega), hA0.1, hA0.2, f_X5_isMostly_J34, lt_v]
    rw [show i + (Lr.length + 1) = i + 1 + Lr.length by omega]
    by_cases q : b p.2 = false
    · rw [if_pos (hb1.mpr q)]
      have := ih (i + 1) h fu hA1 (by omega) (by omega) (fun x hx => hb x (List.mem_cons_of_mem _ hx)) (by omega)
      simp only [fa_L, nI_add, Nat.add_zero]
      rw [this]
      simp only [sumIf, q]
      simp
      rfl
    · rw [if_neg (fun z => q (hb1.mp z))]
      have := ih (i + 1) (h + p.1) fu hA1 (by omega) (by omega) (fun x hx => hb x (List.mem_cons_of_mem _ hx)) (by omega)
      simp only [fa_L, nI_add]
      rw [this]
      have q2 : b p.2 = true := by cases e : b p.2 <;> simp_all
      simp only [sumIf, q2, if_pos, Nat.add_assoc]
      rfl
theorem p_mostly {N : Nat} {y1 : Int32} {b : Nat → Bool} {L : List (Nat × Nat)} {A M : Nat → Int32} {n t : Int32} (hN : N < 20000) (hn : L.length ≤ N) (ht : tot L < 2 ^ 30) (hr : rowR L A M n t) (hb : ∀ p ∈ L, (nI p.2 &&& y1 = 0 ↔ b p.2 = false)) : f_X5_isMostly N y1 A M n t = some (if tot L < 2 * sumIf b L then 1 else 0) := by
  obtain ⟨rfl, rfl, hk⟩ := hr
  have := p_mostly_L (N := N) (y1 := y1) (b := b) (A := A) (M := M) (T := tot L) (by omega) ht L 0 0 FU (fun k h => by rw [Nat.zero_add]; exact hk k h) (by omega) (by show _ < 20000; omega) hb (by omega)
  rw [f_X5_isMostly, ← nI_0]
  rw [Nat.zero_add, Nat.zero_add] at this
  exact this
/-- the amount up to the latest one that is not m -/
def upTo (m : Nat) : List (Nat × Nat) → Nat → Nat → Nat
  | [], _, u => u
  | p :: L, s, u => upTo m L (s + p.1) (if p.2 = m then u else s + p.1)
theorem p_upTo_L {N m : Nat} {A M : Nat → Int32} (hN : N < 2 ^ 30) (hm : m < 2 ^ 31) : ∀ (Lr : List (Nat × Nat)) (i s u fuel : Nat), okR Lr → (∀ k : Nat, k < Lr.length → A (i + k) = nI (lk Lr k).1 ∧ M (i + k) = nI (lk Lr k).2) → i + Lr.length ≤ N → Lr.length < fuel →
    f_X5_amountUpToLastUnlike_L7 N A M (nI (i + Lr.length)) (nI m) fuel (nI s) (nI u) (nI i) = some (nI (upTo m Lr s u)) := by
  intro Lr
  induction Lr with
  | nil =>
    intro i s u fuel hok hA hi hf
    obtain ⟨fu, rfl⟩ : ∃ fu, fuel = fu + 1 := ⟨fuel - 1, by omega⟩
    simp only [List.length_nil] at hi
    rw [f_X5_amountUpToLastUnlike_L7, if_pos (show nI (i + ([] : List (Nat × Nat)).length) ≤ nI i from nI_le (Nat.le_refl _) (by omega))]
    rfl
  | cons p Lr ih =>
    intro i s u fuel hok hA hi hf
    obtain ⟨fu, rfl⟩ : ∃ fu, fuel = fu + 1 := ⟨fuel - 1, by omega⟩
    obtain ⟨hp, hok2⟩ := okR_c hok
    simp only [List.length_cons] at hi hf ⊢
    have hgi := nI_in (c := i) (N := N) (by omega) (by omega)
    have hA0 := hA 0 (by simp)
    rw [Nat.add_zero, lk_0] at hA0
    have hA1 : ∀ k : Nat, k < Lr.length → A (i + 1 + k) = nI (lk Lr k).1 ∧ M (i + 1 + k) = nI (lk Lr k).2 := fun k hk => by
      have := hA (k + 1) (by simp only [List.length_cons]; omega)
      rw [lk_s, show i + (k + 1) = i + 1 + k by omega] at this
      exact this
    rw [f_X5_amountUpToLastUnlike_L7, if_neg (nI_ge (by omega) (by omega))]
    simp only [gd_t hgi, lt_v]
    simp only [nI_clamp (show i < 2 ^ 31 by omega), hA0.1, hA0.2, f_X5_amountUpToLastUnlike_J39, lt_v]
    rw [show i + (Lr.length + 1) = i + 1 + Lr.length by omega, upTo]
    by_cases q : p.2 = m
    · rw [if_pos (congrArg nI q), if_pos q]
      simp only [fa_L, nI_add]
      exact ih (i + 1) (s + p.1) u fu hok2 hA1 (by omega) (by omega)
    · rw [if_neg (fun z => q ((nI_eq (by omega) hm).mp z)), if_neg q]
      simp only [fa_L, nI_add]
      exact ih (i + 1) (s + p.1) (s + p.1) fu hok2 hA1 (by omega) (by omega)
theorem p_upTo {N m : Nat} {L : List (Nat × Nat)} {A M : Nat → Int32} {n t : Int32} (hN : N < 20000) (hm : m < 2 ^ 31) (hn : L.length ≤ N) (hok : okR L) (hr : rowR L A M n t) : f_X5_amountUpToLastUnlike N (nI m) A M n = some (nI (upTo m L 0 0)) := by
  obtain ⟨rfl, rfl, hk⟩ := hr
  have := p_upTo_L (N := N) (m := m) (A := A) (M := M) (by omega) hm L 0 0 0 FU hok (fun k h => by rw [Nat.zero_add]; exact hk k h) (by omega) (by show _ < 20000; omega)
  rw [f_X5_amountUpToLastUnlike, ← nI_0]
  rw [Nat.zero_add] at this
  exact this
/-! hopper -/
def ends (k : Nat) (L : List (Nat × Nat)) : Bool := match L.getLast? with
  | some p => p.2 == k
  | none => false
theorem ends_nil (k : Nat) : ends k [] = false := rfl
theorem ends_app (k : Nat) (L : List (Nat × Nat)) (p : Nat × Nat) : ends k (L ++ [p]) = (p.2 == k) := by
  unfold ends
  rw [List.getLast?_append]
  rfl
theorem snoc_of {α : Type} (L : List α) (h : L ≠ []) : ∃ K x, L = K ++ [x] := ⟨L.dropLast, L.getLast h, (List.dropLast_concat_getLast h).symm⟩
theorem p_ends {N k : Nat} {L : List (Nat × Nat)} {A M : Nat → Int32} {n t : Int32} (hr : rowR L A M n t) (hn : L.length ≤ N) (hN : N < 2 ^ 30) (hok : okR L) (hk : k < 2) : f_X3_endsWith N (nI k) M n = some (if ends k L then 1 else 0) := by
  rcases Classical.em (L = []) with rfl | h
  · obtain ⟨rfl, rfl, -⟩ := hr
    rw [f_X3_endsWith, if_pos (by show nI 0 ≤ 0; rw [nI_0]; exact Int32.le_refl 0), ends_nil]
    rfl
  · obtain ⟨K, x, rfl⟩ := snoc_of L h
    have hlen : (K ++ [x]).length = K.length + 1 := by rw [List.length_append]; rfl
    have hx := hok x (List.mem_append_right _ (List.mem_singleton.mpr rfl))
    have hm := p_markAt (N := N) (k := K.length) hr hn hN (by omega)
    have hl := lk_r (L := K) (K := [x]) (k := 0)
    rw [Nat.add_zero, lk_0] at hl
    rw [hl] at hm
    rw [f_X3_endsWith, hr.1, hlen, if_neg (nI_nle (by omega) (by omega)), fa_L, pk_sub (by omega), Nat.add_sub_cancel, ← hlen, ← hr.1, hm, ends_app]
    simp only [Option.bind_some]
    by_cases q : x.2 = k
    · rw [if_pos (congrArg nI q)]
      simp [q]
    · rw [if_neg (fun z => q ((nI_eq (by omega) (by omega)).mp z))]
      simp [q]
/-- a lot poured in -/
def pour (k a : Nat) (L : List (Nat × Nat)) : List (Nat × Nat) := if ends k L then L.dropLast ++ [((L.getLastD (0, 0)).1 + a, k)] else L ++ [(a, k)]
theorem p_pour {N k a : Nat} {L : List (Nat × Nat)} {A M : Nat → Int32} {n t : Int32} (hr : rowR L A M n t) (hn : L.length ≤ N) (hn2 : ends k L = false → L.length < N) (hN : N < 2 ^ 30) (hok : okR L) (hk : k < 2) : ∃ R, f_X3_pourIn N (nI k) (nI a) A M n t = some R ∧ rowR (pour k a L) R.1 R.2.1 R.2.2.1 R.2.2.2 := by
  rw [f_X3_pourIn, p_ends hr hn hN hok hk]
  unfold pour
  simp only [Option.bind_some]
  cases q : ends k L with
  | false =>
    obtain ⟨A', M', h1, h2⟩ := p_append (a := a) (mk := k) hr (hn2 q) hN
    refine ⟨(A', M', nI (L.length + 1), nI (tot L + a)), ?_, h2⟩
    rw [if_pos (show (if false = true then (1 : Int32) else 0) = 0 from rfl), h1]
    rfl
  | true =>
    rcases Classical.em (L = []) with rfl | h
    · rw [ends_nil] at q; cases q
    · obtain ⟨K, x, rfl⟩ := snoc_of L h
      have hlen : (K ++ [x]).length = K.length + 1 := by rw [List.length_append]; rfl
      rw [ends_app] at q
      have qx : x.2 = k := by simpa using q
      obtain ⟨A', h1, h2⟩ := p_addToLast (N := N) (a := a) (b := x.1) (mk := x.2) (L := K) hr (by omega) hN
      refine ⟨(A', M, n, nI (tot (K ++ [(x.1 + a, x.2)]))), ?_, ?_⟩
      · rw [if_pos rfl, if_neg (by decide), h1]
        rfl
      · rw [if_pos rfl, List.dropLast_concat, List.getLastD_concat, ← qx]
        exact h2
theorem pour_tot {k a : Nat} {L : List (Nat × Nat)} : tot (pour k a L) = tot L + a := by
  unfold pour
  split
  · rename_i q
    rcases Classical.em (L = []) with rfl | h
    · rw [ends_nil] at q; cases q
    · obtain ⟨K, x, rfl⟩ := snoc_of L h
      rw [List.dropLast_concat, List.getLastD_concat, tot_app, tot_app]
      simp only [tot]
      omega
  · rw [tot_app]; rfl
theorem p_letHop {N N2 l b gap : Nat} {L L2 : List (Nat × Nat)} {A M A2 M2 : Nat → Int32} {n t n2 t2 : Int32} (hN : N < 20000) (hN2 : N2 < 2 ^ 30) (hok : okR L) (hk : ∀ p ∈ L, p.2 < 2) (hb : b < 2) (hgap : gap < 2 ^ 20) (hr : rowR L A M n t) (hr2 : rowR L2 A2 M2 n2 t2) (hl : l ≤ tot L) (ht : tot L < 2 ^ 30) (hn : L.length ≤ N) (hn2 : L2.length + L.length ≤ N2) :
    ∃ R, f_X3_letOut N N2 (nI l) (nI b) (nI gap) A M n t A2 M2 n2 t2 = some R ∧ rowR (tk l L).2 R.1 R.2.1 R.2.2.1 R.2.2.2.1 ∧ rowR (L2 ++ mk2 (fun m => 4 * gap + 2 * b + m) (tk l L).1) R.2.2.2.2.1 R.2.2.2.2.2.1 R.2.2.2.2.2.2.1 R.2.2.2.2.2.2.2 := by
  obtain ⟨R, h1, h2, h3⟩ := p_letOut (y2 := nI (4 * gap + 2 * b)) (g := fun m => 4 * gap + 2 * b + m) hN hN2 hok hr hr2 hl ht hn (by have := (tk_len L l).1; omega) (fun p hp => by
    have h := hk p hp
    have e : (2 : Nat) ^ 1 * (2 * gap + b) = 4 * gap + 2 * b := by omega
    rw [fa_or, Nat.or_comm, ← fa_or, ← e]
    exact fa_or_sum (k := 1) _ (by omega))
  refine ⟨R, ?_, h2, h3⟩
  have := p_mark (k := 0) (b := b) (g := gap) (by decide) hb hgap
  rw [nI_0, Nat.add_zero] at this
  rw [f_X3_letOut, this]
  simp only [Option.bind_some]
  rw [h1]
  rfl
end
section
/-! shots that are kept: number, time, amount, burr, kind, second, portions; the latest first -/
abbrev Sh : Type := Int32 × Nat × Int32 × Int32 × Int32 × Int32 × Int32
def sk0 (K : List Sh) (k : Nat) : Sh := K.getD k (0, 0, 0, 0, 0, 0, 0)
theorem sk0_0 (x : Sh) (K : List Sh) : sk0 (x :: K) 0 = x := rfl
theorem sk0_s (x : Sh) (K : List Sh) (k : Nat) : sk0 (x :: K) (k + 1) = sk0 K k := rfl
theorem sk0_t (K : List Sh) {n k : Nat} (h : k < n) : sk0 (K.take n) k = sk0 K k := by
  unfold sk0
  rw [List.getD_eq_getElem?_getD, List.getD_eq_getElem?_getD, List.getElem?_take, if_pos h]
def shF (f : Nat → Int32) (b : Nat) (x : Sh) : Prop := f b = x.1 ∧ f (b + 1) = nI x.2.1 ∧ f (b + 2) = x.2.2.1 ∧ f (b + 3) = x.2.2.2.1 ∧ f (b + 4) = x.2.2.2.2.1 ∧ f (b + 6) = x.2.2.2.2.2.1 ∧ f (b + 7) = x.2.2.2.2.2.2
def shR (K : List Sh) (f : Nat → Int32) (sk : Int32) : Prop := sk = nI K.length ∧ K.length ≤ 12 ∧ (∀ k : Nat, k < K.length → (sk0 K k).2.1 ≤ 30000) ∧ ∀ k : Nat, k < K.length → shF f (8 * k) (sk0 K k)
/-- how far from the target -/
def aw (t g : Nat) : Nat := if g ≤ t then t - g else g - t
theorem p_absI {a b : Nat} (ha : a < 2 ^ 30) (hb : b < 2 ^ 30) : (if 0 ≤ nI a - nI b then nI a - nI b else 0 - (nI a - nI b)) = nI (aw a b) := by
  unfold aw
  by_cases h : b ≤ a
  · rw [pk_sub h, if_pos (nI_pos' (by omega)), if_pos h]
  · have hn := pk_sneg (a := a) (b := b) hb (by omega)
    rw [if_neg (fun q => ?_), if_neg h]
    · have e : (0 : Int32) - (nI a - nI b) = nI b - nI a := by rw [Int32.zero_sub, Int32.neg_sub]
      rw [e, pk_sub (by omega)]
    · rw [Int32.lt_iff_toInt_lt] at hn
      rw [Int32.le_iff_toInt_le] at q
      omega
theorem p_away {K : List Sh} {f : Nat → Int32} {sk : Int32} {g k : Nat} (h : shR K f sk) (hg : g ≤ 600) (hk : k < K.length) : f_X6_awayFrom (nI g) (nI k) f = some (nI (aw (sk0 K k).2.1 g)) := by
  obtain ⟨rfl, h12, ht, hf⟩ := h
  have h1 := (hf k hk).2.1
  have h2 := ht k hk
  have e : nI k * 8 + 1 = nI (8 * k + 1) := by
    rw [fa_lit 8, fa_lit 1, pk_mul, nI_add, Nat.mul_comm]
  have hgi := nI_in (c := 8 * k + 1) (N := 96) (by omega) (by omega)
  rw [f_X6_awayFrom, e, gd_t hgi, nI_clamp (by omega), h1, p_absI (by omega) (by omega)]
  rfl
/-- how many of the first n are ahead of the one at i -/
def ahead (K : List Sh) (g i : Nat) : Nat → Nat
  | 0 => 0
  | n + 1 => ahead K g i n + (if aw (sk0 K n).2.1 g < aw (sk0 K i).2.1 g ∨ (aw (sk0 K n).2.1 g = aw (sk0 K i).2.1 g ∧ n < i) then 1 else 0)
theorem ahead_le (K : List Sh) (g i : Nat) : ∀ n, ahead K g i n ≤ n
  | 0 => Nat.le_refl 0
  | n + 1 => by
    have := ahead_le K g i n
    unfold ahead
    split <;> omega
theorem p_place_L {K : List Sh} {f : Nat → Int32} {sk : Int32} {g i : Nat} (h : shR K f sk) (hg : g ≤ 600) (hi : i < K.length) : ∀ (m n fuel : Nat), n + m = K.length → m < fuel → f_X6_placeOf_L13 f sk (nI i) (nI g) (nI (aw (sk0 K i).2.1 g)) fuel (nI (ahead K g i n)) (nI n) = some (nI (ahead K g i K.length)) := by
  have h12 := h.2.1
  have hsk := h.1
  have hai : aw (sk0 K i).2.1 g < 2 ^ 30 := by
    have := h.2.2.1 i hi
    unfold aw; split <;> omega
  intro m
  induction m with
  | zero =>
    intro n fuel hn hf
    obtain ⟨fu, rfl⟩ : ∃ fu, fuel = fu + 1 := ⟨fuel - 1, by omega⟩
    rw [f_X6_placeOf_L13, if_pos (by rw [hsk]; exact nI_le (by omega) (by omega)), show n = K.length by omega]
  | succ m ih =>
    intro n fuel hn hf
    obtain ⟨fu, rfl⟩ : ∃ fu, fuel = fu + 1 := ⟨fuel - 1, by omega⟩
    have hal := ahead_le K g i n
    have han : aw (sk0 K n).2.1 g < 2 ^ 30 := by
      have := h.2.2.1 n (by omega)
      unfold aw; split <;> omega
    have ih' := ih (n + 1) fu (by omega) (by omega)
    rw [f_X6_placeOf_L13, if_neg (by rw [hsk]; exact nI_ge (by omega) (by omega)), p_away h hg (by omega)]
    simp only [Option.bind_some, f_X6_placeOf_J49, f_X6_placeOf_J52, lt_v, fa_L, nI_add]
    rw [show ahead K g i (n + 1) = ahead K g i n + (if aw (sk0 K n).2.1 g < aw (sk0 K i).2.1 g ∨ (aw (sk0 K n).2.1 g = aw (sk0 K i).2.1 g ∧ n < i) then 1 else 0) from rfl] at ih'
    by_cases q1 : aw (sk0 K n).2.1 g < aw (sk0 K i).2.1 g
    · rw [if_pos (nI_lt q1 (by omega))]
      rw [if_pos (Or.inl q1)] at ih'
      exact ih'
    · rw [if_neg (nI_nlt (by omega) (by omega))]
      by_cases q2 : aw (sk0 K n).2.1 g = aw (sk0 K i).2.1 g
      · rw [if_pos (congrArg nI q2)]
        by_cases q3 : n < i
        · rw [if_neg (nI_ge q3 (by omega))]
          rw [if_pos (Or.inr ⟨q2, q3⟩)] at ih'
          exact ih'
        · rw [if_pos (nI_le (by omega) (by omega))]
          rw [if_neg (by omega), Nat.add_zero] at ih'
          exact ih'
      · rw [if_neg (fun z => q2 ((nI_eq (by omega) (by omega)).mp z))]
        rw [if_neg (by omega), Nat.add_zero] at ih'
        exact ih'
theorem p_place {K : List Sh} {f : Nat → Int32} {sk : Int32} {g i : Nat} (h : shR K f sk) (hg : g ≤ 600) (hi : i < K.length) : f_X6_placeOf (nI i) (nI g) f sk = some (nI (ahead K g i K.length)) := by
  have h12 := h.2.1
  have := p_place_L h hg hi K.length 0 FU (by omega) (by show _ < 20000; omega)
  rw [f_X6_placeOf, p_away h hg hi]
  simp only [Option.bind_some]
  rw [← nI_0]
  exact this
/-- the number of the first one from i on that stands at this place -/
def bestAt (K : List Sh) (g : Nat) (x : Int32) : Nat → Nat → Int32
  | 0, _ => -1000004
  | m + 1, i => if nI (ahead K g i K.length) = x then (sk0 K i).1 else bestAt K g x m (i + 1)
theorem p_number_L {K : List Sh} {f : Nat → Int32} {sk x : Int32} {g : Nat} (h : shR K f sk) (hg : g ≤ 600) : ∀ (m i fuel : Nat), i + m = K.length → m < fuel → f_X6_numberAtPlace_L2 f sk x (nI g) fuel (nI i) = some (bestAt K g x m i) := by
  have h12 := h.2.1
  have hsk := h.1
  intro m
  induction m with
  | zero =>
    intro i fuel hi hf
    obtain ⟨fu, rfl⟩ : ∃ fu, fuel = fu + 1 := ⟨fuel - 1, by omega⟩
    rw [f_X6_numberAtPlace_L2, if_pos (by rw [hsk]; exact nI_le (by omega) (by omega))]
    rfl
  | succ m ih =>
    intro i fuel hi hf
    obtain ⟨fu, rfl⟩ : ∃ fu, fuel = fu + 1 := ⟨fuel - 1, by omega⟩
    have ih' := ih (i + 1) fu (by omega) (by omega)
    have e : nI i * 8 + 0 = nI (8 * i) := by
      rw [fa_lit 8, fa_lit 0, pk_mul, nI_add, Nat.mul_comm, Nat.add_zero]
    have hgi := nI_in (c := 8 * i) (N := 96) (by omega) (by omega)
    rw [f_X6_numberAtPlace_L2, if_neg (by rw [hsk]; exact nI_ge (by omega) (by omega)), p_place h hg (by omega)]
    simp only [Option.bind_some]
    rw [e, gd_t hgi, nI_clamp (by omega), (h.2.2.2 i (by omega)).1, bestAt]
    by_cases q : nI (ahead K g i K.length) = x
    · rw [if_pos q, if_pos q]
    · rw [if_neg q, if_neg q, lt_v, fa_L, nI_add]
      exact ih'
theorem p_number {K : List Sh} {f : Nat → Int32} {sk : Int32} {g : Nat} (x : Int32) (h : shR K f sk) (hg : g ≤ 600) : f_X6_numberAtPlace x (nI g) f sk = some (bestAt K g x K.length 0) := by
  have h12 := h.2.1
  have := p_number_L (x := x) h hg K.length 0 FU (by omega) (by show _ < 20000; omega)
  rw [f_X6_numberAtPlace, ← nI_0]
  exact this
/-- what is told of a shot: by its place in the answers of shotOf -/
def shOf (x : Sh) (g w : Nat) : Int32 := match w with
  | 0 => x.1
  | 1 => nI x.2.1
  | 2 => x.2.2.1
  | 3 => x.2.2.2.1
  | 4 => x.2.2.2.2.1
  | 5 => nI (aw x.2.1 g)
  | 6 => x.2.2.2.2.2.1
  | _ => x.2.2.2.2.2.2
theorem p_tellShot {K : List Sh} {f : Nat → Int32} {sk : Int32} {g i w : Nat} (h : shR K f sk) (hg : g ≤ 600) (hi : i < 2 ^ 31) (hw : w < 8) : f_X6_tell (nI i) (nI w) (nI g) f sk = some (if i < K.length then shOf (sk0 K i) g w else -1000004) := by
  have h12 := h.2.1
  have hsk := h.1
  rw [f_X6_tell, if_neg (nI_pos hi)]
  by_cases q : i < K.length
  · have hf := h.2.2.2 i q
    have e : nI i * 8 + nI w = nI (8 * i + w) := by
      rw [fa_lit 8, pk_mul, nI_add, Nat.mul_comm]
    have hgi := nI_in (c := 8 * i + w) (N := 96) (by omega) (by omega)
    rw [if_neg (by rw [hsk]; exact nI_ge q (by omega)), if_neg (nI_pos (by omega)), fa_lit 8, if_pos (nI_lt hw (by decide)), if_pos q, fa_lit 5]
    rw [← fa_lit 8, e, gd_t hgi, nI_clamp (by omega), p_away h hg q]
    obtain ⟨f0, f1, f2, f3, f4, f6, f7⟩ := hf
    have hw' : w = 0 ∨ w = 1 ∨ w = 2 ∨ w = 3 ∨ w = 4 ∨ w = 5 ∨ w = 6 ∨ w = 7 := by omega
    rcases hw' with rfl | rfl | rfl | rfl | rfl | rfl | rfl | rfl
    · rw [if_neg (by decide)]; exact congrArg some f0
    · rw [if_neg (by decide)]; exact congrArg some f1
    · rw [if_neg (by decide)]; exact congrArg some f2
    · rw [if_neg (by decide)]; exact congrArg some f3
    · rw [if_neg (by decide)]; exact congrArg some f4
    · rw [if_pos rfl]; rfl
    · rw [if_neg (by decide)]; exact congrArg some f6
    · rw [if_neg (by decide)]; exact congrArg some f7
  · rw [if_pos (by rw [hsk]; exact nI_le (by omega) hi), if_neg q]
theorem p_addShot {K : List Sh} {f : Nat → Int32} {sk : Int32} {t : Nat} (h : shR K f sk) (ht : t ≤ 30000) (x2 x3 x4 x5 x6 sm : Int32) : ∃ R, f_X6_add (nI t) x2 x3 x4 x5 x6 f sk sm = some R ∧ shR (((sm, t, x2, x3, x4, x5, x6) :: K).take 12) R.1 R.2.1 ∧ R.2.2 = sm + 1 := by
  obtain ⟨rfl, h12, htt, hf⟩ := h
  have hg : ¬ (0 : Int32) < 0 ∧ ¬ (8 : Int32) < 0 ∧ ¬ ((96 : Int32) - 8) < 0 ∧ (0 : Int32).toNatClampNeg + ((96 : Int32) - 8).toNatClampNeg ≤ 96 ∧ (8 : Int32).toNatClampNeg + ((96 : Int32) - 8).toNatClampNeg ≤ 96 := by decide
  have hlen : (((sm, t, x2, x3, x4, x5, x6) :: K).take 12).length = min 12 (K.length + 1) := by rw [List.length_take]; rfl
  refine ⟨(upd (upd (upd (upd (upd (upd (upd (va_cpy f f 0 8 88) 0 sm) 1 (nI t)) 2 x2) 3 x3) 4 x4) 6 x5) 7 x6, nI (min 12 (K.length + 1)), sm + 1), ?_, ⟨?_, ?_, ?_, ?_⟩, rfl⟩
  · rw [f_X6_add, gd_t hg]
    have e : (if nI K.length + (1 : Int32) < 12 then nI K.length + (1 : Int32) else 12) = nI (min 12 (K.length + 1)) := by
      rw [fa_lit 1, fa_lit 12, nI_add]
      by_cases q : K.length + 1 < 12
      · rw [if_pos (nI_lt q (by decide))]; exact nI_inj (by omega)
      · rw [if_neg (nI_nlt (by omega) (by omega))]; exact nI_inj (by omega)
    rw [e]
    rfl
  · rw [hlen]
  · rw [hlen]; omega
  · intro k hk
    rw [hlen] at hk
    rw [sk0_t _ (by omega)]
    cases k with
    | zero => exact ht
    | succ k => rw [sk0_s]; exact htt k (by omega)
  · intro k hk
    rw [hlen] at hk
    rw [sk0_t _ (by omega)]
    cases k with
    | zero => exact ⟨rfl, rfl, rfl, rfl, rfl, rfl, rfl⟩
    | succ k =>
      rw [sk0_s]
      have hk2 : k < K.length := by omega
      have e : ∀ j, j < 8 → upd (upd (upd (upd (upd (upd (upd (va_cpy f f 0 8 88) 0 sm) 1 (nI t)) 2 x2) 3 x3) 4 x4) 6 x5) 7 x6 (8 * (k + 1) + j) = f (8 * k + j) := fun j hj => by
        rw [pk_un (by omega), pk_un (by omega), pk_un (by omega), pk_un (by omega), pk_un (by omega), pk_un (by omega), pk_un (by omega), pk_cpy_in (by omega) (by omega)]
        congr 1
        omega
      obtain ⟨f0, f1, f2, f3, f4, f6, f7⟩ := hf k hk2
      exact ⟨(e 0 (by decide)).trans f0, (e 1 (by decide)).trans f1, (e 2 (by decide)).trans f2, (e 3 (by decide)).trans f3, (e 4 (by decide)).trans f4, (e 6 (by decide)).trans f6, (e 7 (by decide)).trans f7⟩
theorem p_copyShots {K : List Sh} {f f2 : Nat → Int32} {sk2 : Int32} (h : shR K f2 sk2) (sk sm sm2 : Int32) : ∃ R, f_X6_copyFrom f sk sm f2 sk2 sm2 = some R ∧ shR K R.1 R.2.1 ∧ R.2.2 = sm2 := by
  have hg : ¬ (0 : Int32) < 0 ∧ ¬ (0 : Int32) < 0 ∧ ¬ (96 : Int32) < 0 ∧ (0 : Int32).toNatClampNeg + (96 : Int32).toNatClampNeg ≤ 96 ∧ (0 : Int32).toNatClampNeg + (96 : Int32).toNatClampNeg ≤ 96 := by decide
  refine ⟨(va_cpy f2 f 0 0 96, sk2, sm2), ?_, ⟨h.1, h.2.1, h.2.2.1, ?_⟩, rfl⟩
  · rw [f_X6_copyFrom, gd_t hg]
    rfl
  · intro k hk
    have h12 := h.2.1
    have e : ∀ j, j < 8 → va_cpy f2 f 0 0 96 (8 * k + j) = f2 (8 * k + j) := fun j hj => by
      rw [pk_cpy_in (by omega) (by omega)]
      congr 1
      omega
    obtain ⟨f0, f1, f2, f3, f4, f6, f7⟩ := h.2.2.2 k hk
    exact ⟨(e 0 (by decide)).trans f0, (e 1 (by decide)).trans f1, (e 2 (by decide)).trans f2, (e 3 (by decide)).trans f3, (e 4 (by decide)).trans f4, (e 6 (by decide)).trans f6, (e 7 (by decide)).trans f7⟩
end
section
/-! the state of a grinder, and its methods -/
abbrev Bu : Type := Nat × Nat × Int32 × Int32
abbrev Sp : Type := List (Nat × Nat) × List (Nat × Nat) × List (Nat × Nat) × Bu × Bu × List Sh × Int32 × (Nat → Nat) × Nat × Int32 × Int32 × Int32 × Int32 × Int32
abbrev v_lo (σ : Sp) : List (Nat × Nat) := σ.1
abbrev v_ch (σ : Sp) : List (Nat × Nat) := σ.2.1
abbrev v_ba (σ : Sp) : List (Nat × Nat) := σ.2.2.1
abbrev v_b0 (σ : Sp) : Bu := σ.2.2.2.1
abbrev v_b1 (σ : Sp) : Bu := σ.2.2.2.2.1
abbrev v_K (σ : Sp) : List Sh := σ.2.2.2.2.2.1
abbrev v_mk (σ : Sp) : Int32 := σ.2.2.2.2.2.2.1
abbrev v_st (σ : Sp) : Nat → Nat := σ.2.2.2.2.2.2.2.1
abbrev v_se (σ : Sp) : Nat := σ.2.2.2.2.2.2.2.2.1
abbrev v_fi (σ : Sp) : Int32 := σ.2.2.2.2.2.2.2.2.2.1
abbrev v_gr (σ : Sp) : Int32 := σ.2.2.2.2.2.2.2.2.2.2.1
abbrev v_br (σ : Sp) : Int32 := σ.2.2.2.2.2.2.2.2.2.2.2.1
abbrev v_pu (σ : Sp) : Int32 := σ.2.2.2.2.2.2.2.2.2.2.2.2.1
abbrev v_nr (σ : Sp) : Int32 := σ.2.2.2.2.2.2.2.2.2.2.2.2.2
def buR (b : Bu) (d w g k : Int32) : Prop := d = nI b.1 ∧ w = nI b.2.1 ∧ g = b.2.2.1 ∧ k = b.2.2.2
def stR (v : Nat → Nat) (st : Nat → Int32) : Prop := ∀ k : Nat, k < 6 → st k = nI (v k)
def buK (b : Bu) : Prop := 1 ≤ b.1 ∧ b.1 ≤ 60 ∧ b.2.1 ≤ 300
def mkK (L : List (Nat × Nat)) : Prop := ∀ p ∈ L, 40 ≤ p.2 ∧ p.2 < 2404
def stK (v : Nat → Nat) : Prop := 100 ≤ v 0 ∧ v 0 ≤ 600 ∧ v 1 ≤ 200 ∧ v 2 ≤ 100 ∧ 30 ≤ v 3 ∧ v 3 ≤ 300 ∧ 30 ≤ v 4 ∧ v 4 ≤ 300 ∧ v 5 ≤ 1
def hdn (v : Nat → Nat) (k : Nat) : Nat := if k = 0 then v 3 else v 4
def flm (v : Nat → Nat) (m : Nat) : Nat := fw (hdn v (m % 2)) (m / 4)
def sumF (v : Nat → Nat) : List (Nat × Nat) → Nat
  | [] => 0
  | p :: L => p.1 * flm v p.2 + sumF v L
def timeS (v : Nat → Nat) (L : List (Nat × Nat)) : Nat := sumF v L / tot L
theorem fw_le {h g : Nat} (hh : h ≤ 300) : fw h g ≤ 30000 := by
  unfold fw
  split
  · omega
  · have h1 : h * 1000 / g ≤ h * 1000 / 10 := Nat.div_le_div_left (by omega) (by decide)
    omega
theorem hdn_le {v : Nat → Nat} (hv : stK v) (k : Nat) : hdn v k ≤ 300 := by
  obtain ⟨-, -, -, -, -, h3, -, h4, -⟩ := hv
  unfold hdn
  split <;> omega
theorem flm_le {v : Nat → Nat} (hv : stK v) (m : Nat) : flm v m ≤ 30000 := fw_le (hdn_le hv _)
theorem sumF_le {v : Nat → Nat} (hv : stK v) : ∀ L, sumF v L ≤ tot L * 30000
  | [] => by simp [sumF, tot]
  | p :: L => by
    have h1 := sumF_le hv L
    have h2 : p.1 * flm v p.2 ≤ p.1 * 30000 := Nat.mul_le_mul (Nat.le_refl _) (flm_le hv _)
    simp only [sumF, tot]
    rw [Nat.add_mul]
    omega
theorem timeS_le {v : Nat → Nat} (hv : stK v) (L : List (Nat × Nat)) : timeS v L ≤ 30000 := by
  unfold timeS
  rcases Nat.eq_zero_or_pos (tot L) with h | h
  · rw [h, Nat.div_zero]; omega
  · have h1 := sumF_le hv L
    have : sumF v L / tot L ≤ tot L * 30000 / tot L := Nat.div_le_div_right h1
    rw [Nat.mul_div_cancel_left _ h] at this
    exact this
theorem p_hard {v : Nat → Nat} {st : Nat → Int32} (hs : stR v st) {k : Nat} (hk : k < 2 ^ 31) : f_X1_hardnessOf (nI k) st = some (nI (hdn v k)) := by
  rw [f_X1_hardnessOf]
  unfold hdn
  by_cases h : k = 0
  · subst h
    rw [if_pos nI_0, if_pos rfl]
    exact congrArg some (hs 3 (by decide))
  · rw [if_neg (nI_ne0 (by omega) hk), if_neg h]
    exact congrArg some (hs 4 (by decide))
theorem p_flowOfMark {v : Nat → Nat} {st : Nat → Int32} (hs : stR v st) (hv : stK v) {m : Nat} (hm : m < 2 ^ 30) : f_X1_flowOfMark (nI m) st = some (nI (flm v m)) := by
  have h1 : m % 2 < 2 ^ 31 := Nat.lt_of_lt_of_le (Nat.mod_lt m (by decide)) (by decide)
  have h2 : m < 2 ^ 31 := Nat.lt_of_lt_of_le hm (by decide)
  have h3 : m / 4 < 2 ^ 30 := Nat.lt_of_le_of_lt (Nat.div_le_self m 4) hm
  have e1 := p_hard hs h1
  have e2 := p_gapOf h2
  have e3 := p_flow (hdn_le hv (m % 2)) h3
  rw [f_X1_flowOfMark, p_kindOf, Option.bind_some, e1, Option.bind_some, e2, Option.bind_some, e3, Option.bind_some, flm]
theorem p_time_L {v : Nat → Nat} {st : Nat → Int32} (hs : stR v st) (hv : stK v) {L : List (Nat × Nat)} {A M : Nat → Int32} {n t : Int32} (hr : rowR L A M n t) (hok : okR L) (hT : tot L ≤ 400) (h0 : 0 < tot L) : ∀ (m i s fuel : Nat) (Lr : List (Nat × Nat)), Lr.length = m → i + m = L.length → (∀ k : Nat, k < m → lk Lr k = lk L (i + k)) → m < fuel → s + sumF v Lr ≤ 400 * 30000 →
    f_X1_timeOfBasket_L18 A M n t st fuel (nI s) (nI i) = some (nI ((s + sumF v Lr) / tot L)) := by
  have hlen := len_tot hok
  intro m
  induction m with
  | zero =>
    intro i s fuel Lr hL hi hk hf hb
    obtain ⟨fu, rfl⟩ : ∃ fu, fuel = fu + 1 := ⟨fuel - 1, by omega⟩
    have hL0 : Lr = [] := List.length_eq_zero_iff.mp hL
    subst hL0
    rw [f_X1_timeOfBasket_L18, hr.1, hr.2.1, if_pos (nI_le (by omega) (by omega)), gd_t (nI_ne0 h0 (by omega))]
    simp only [sumF] at hb ⊢
    rw [pk_div (by omega) h0 (by omega), Nat.add_zero]
  | succ m ih =>
    intro i s fuel Lr hL hi hk hf hb
    obtain ⟨fu, rfl⟩ : ∃ fu, fuel = fu + 1 := ⟨fuel - 1, by omega⟩
    match Lr, hL with
    | p :: Lr, hL =>
      simp only [List.length_cons] at hL
      have h1 := hk 0 (by omega)
      rw [lk_0, Nat.add_zero] at h1
      have hp := hok (lk L i) (lk_m (by omega))
      have ih' := ih (i + 1) (s + p.1 * flm v p.2) fu Lr (by omega) (by omega) (fun k h => by
        have := hk (k + 1) (by omega)
        rw [lk_s] at this
        rw [this, show i + (k + 1) = i + 1 + k by omega]) (by omega) (by simp only [sumF] at hb; omega)
      rw [f_X1_timeOfBasket_L18, if_neg (by rw [hr.1]; exact nI_ge (by omega) (by omega)), p_amountAt hr (by omega) (by decide) (by omega)]
      simp only [Option.bind_some]
      rw [p_markAt hr (by omega) (by decide) (by omega)]
      simp only [Option.bind_some]
      rw [p_flowOfMark hs hv (by omega)]
      simp only [Option.bind_some, lt_v]
      rw [← h1, pk_mul, nI_add, fa_L, nI_add, ih']
      simp only [sumF, Nat.add_assoc]
theorem p_time {v : Nat → Nat} {st : Nat → Int32} (hs : stR v st) (hv : stK v) {L : List (Nat × Nat)} {A M : Nat → Int32} {n t : Int32} (hr : rowR L A M n t) (hok : okR L) (hT : tot L ≤ 400) : f_X1_timeOfBasket A M n t st = some (if tot L = 0 then -1000002 else nI (timeS v L)) := by
  have hlen := len_tot hok
  rw [f_X1_timeOfBasket]
  by_cases h : tot L = 0
  · rw [if_neg (by rw [hr.2.1, h]; exact nI_ge (a := 0) (b := 1) (by decide) (by decide)), if_pos h]
  · rw [if_pos (by rw [hr.2.1, fa_L]; exact nI_le (by omega) (by omega)), if_neg h, ← nI_0]
    have := p_time_L hs hv hr hok hT (by omega) L.length 0 0 FU L rfl (by omega) (fun k _ => by rw [Nat.zero_add]) (by show _ < 20000; omega) (by
      have := sumF_le hv L
      omega)
    rw [Nat.zero_add] at this
    exact this
/-- times of cooling while n seconds pass -/
def tmz (se n : Nat) : Nat := (se + n) / 10 - se / 10
theorem p_pass {se n w0 w1 : Nat} (hse : se < 2 ^ 29) (hn : n < 2 ^ 29) (h0 : w0 ≤ 300) (h1 : w1 ≤ 300) : f_X1_passSeconds (nI n) (nI w0) (nI w1) (nI se) = some (nI (cl (tmz se n) w0), nI (cl (tmz se n) w1), nI (se + n)) := by
  have e : se / 10 ≤ (se + n) / 10 := Nat.div_le_div_right (by omega)
  rw [f_X1_passSeconds]
  rw [nI_add, fa_L, pk_div (by omega) (by decide) (by decide), pk_div (by omega) (by decide) (by decide), pk_sub e, lt_v]
  have ht : (se + n) / 10 - se / 10 < 2 ^ 30 := by omega
  rw [p_cool ht h0]
  simp only [Option.bind_some]
  rw [p_cool ht h1]
  rfl
theorem cl_le : ∀ (n w : Nat), cl n w ≤ w
  | 0, w => Nat.le_refl w
  | n + 1, w => Nat.le_trans (cl_le n (w - fl w)) (Nat.sub_le _ _)
end
section
/-! arguments -/
theorem ngA {P : Prop} (h : 0 ≤ (-1000001 : Int32)) : P := absurd h (by decide)
theorem ngB {P : Prop} (h : 0 ≤ (-1000002 : Int32)) : P := absurd h (by decide)
theorem ngC {P : Prop} (h : 0 ≤ (-1000003 : Int32)) : P := absurd h (by decide)
theorem ngD {P : Prop} (h : 0 ≤ (-1000004 : Int32)) : P := absurd h (by decide)
theorem v01 {x : Int32} (h : x = 0 ∨ x = 1) : ∃ k : Nat, k < 2 ∧ x = nI k := by
  rcases h with rfl | rfl
  · exact ⟨0, by decide, rfl⟩
  · exact ⟨1, by decide, rfl⟩
theorem v_rng {x : Int32} {hi : Nat} (hh : hi < 2 ^ 31) (h1 : ¬ x < 1) (h2 : ¬ nI hi < x) : ∃ a : Nat, 1 ≤ a ∧ a ≤ hi ∧ x = nI a := by
  have e1 : ¬ x < 0 := fun q => h1 (by
    rw [Int32.lt_iff_toInt_lt] at q ⊢
    rw [Int32.toInt_zero] at q
    rw [fa_L, nI_toInt (by decide)]
    omega)
  obtain ⟨j, hj, rfl⟩ := nI_of e1
  refine ⟨j, ?_, ?_, rfl⟩
  · rcases Nat.lt_or_ge j 1 with q | q
    · exact absurd (nI_lt q (by decide)) h1
    · exact q
  · rcases Nat.lt_or_ge hi j with q | q
    · exact absurd (nI_lt q hj) h2
    · exact q
theorem v_cl {k : Nat} (h : k < 2 ^ 31) : (nI k).toNatClampNeg = k := nI_clamp h
theorem is01_t {k : Nat} (h : k < 2) : f_X7_isZeroOrOne (nI k) = some 1 := by
  rw [p_is01]
  rcases (show k = 0 ∨ k = 1 by omega) with rfl | rfl <;> rfl
theorem is01_f {x : Int32} (h : ¬ (x = 0 ∨ x = 1)) : f_X7_isZeroOrOne x = some 0 := by
  rw [p_is01, if_neg h]
/-! what a grinder's calls answer, and what it is then -/
abbrev cIA : Int32 := -1000001
abbrev cNP : Int32 := -1000002
abbrev cLR : Int32 := -1000003
abbrev cNF : Int32 := -1000004
abbrev bad2 (x1 x2 : Int32) (hi : Nat) : Prop := ¬ (x1 = 0 ∨ x1 = 1) ∨ x2 < 1 ∨ nI hi < x2
def full (k a : Nat) (L : List (Nat × Nat)) : Prop := 4000 < tot L + a ∨ (¬ L.length < 6 ∧ ends k L = false)
noncomputable def a_fill (x1 x2 : Int32) (L : List (Nat × Nat)) : Int32 := by
  classical
  exact if bad2 x1 x2 999 then cIA else if full x1.toNatClampNeg x2.toNatClampNeg L then cLR else nI (tot L + x2.toNatClampNeg)
theorem p_fillIn {L : List (Nat × Nat)} {A M : Nat → Int32} {n t : Int32} (hr : rowR L A M n t) (hok : okR L) (hT : tot L ≤ 4000) (hn : L.length ≤ 6) (x1 x2 fi : Int32) : ∃ R, f_X1_fillIn x1 x2 A M n t fi = some R ∧ R.1 = a_fill x1 x2 L ∧ (0 ≤ R.1 → rowR (pour x1.toNatClampNeg x2.toNatClampNeg L) R.2.1 R.2.2.1 R.2.2.2.1 R.2.2.2.2.1 ∧ R.2.2.2.2.2 = fi + x2) := by
  unfold a_fill
  rw [f_X1_fillIn]
  by_cases h1 : x1 = 0 ∨ x1 = 1
  · obtain ⟨k, hk, rfl⟩ := v01 h1
    rw [is01_t hk]
    simp only [Option.bind_some]
    rw [if_neg (by decide)]
    by_cases h2 : x2 < 1
    · rw [if_pos h2, if_pos (Or.inr (Or.inl h2))]
      exact ⟨_, rfl, rfl, (by first | exact ngA | exact ngB | exact ngC | exact ngD)⟩
    · rw [if_neg h2]
      by_cases h3 : (999 : Int32) < x2
      · rw [if_neg (Int32.not_le.mpr h3), if_pos (show bad2 _ _ 999 from Or.inr (Or.inr h3))]
        exact ⟨_, rfl, rfl, (by first | exact ngA | exact ngB | exact ngC | exact ngD)⟩
      · obtain ⟨a, ha1, ha2, rfl⟩ := v_rng (hi := 999) (by decide) h2 h3
        rw [if_pos (Int32.not_lt.mp h3), if_neg (show ¬ bad2 _ _ 999 from fun q => by rcases q with q | q | q; exact q h1; exact h2 q; exact h3 q), v_cl (by omega), v_cl (by omega)]
        rw [f_X3_hasRoomFor, hr.2.1, nI_add, fa_lit 4000]
        by_cases h4 : 4000 < tot L + a
        · rw [if_pos (nI_lt h4 (by omega)), if_pos (show full k a L from Or.inl h4)]
          simp only [Option.bind_some]
          exact ⟨_, rfl, rfl, (by first | exact ngA | exact ngB | exact ngC | exact ngD)⟩
        · have hp : ∀ (h5 : ends k L = false → L.length < 6), ∃ R, f_X3_pourIn 6 (nI k) (nI a) A M n (nI (tot L)) = some R ∧ rowR (pour k a L) R.1 R.2.1 R.2.2.1 R.2.2.2 := fun h5 => by
            have := p_pour (N := 6) (k := k) (a := a) hr hn h5 (by decide) hok hk
            rw [hr.2.1] at this
            exact this
          rw [if_neg (nI_nlt (by omega) (by decide)), hr.1, fa_lit 6, p_ends (N := 6) (n := nI L.length) (hr.1 ▸ hr) hn (by decide) hok hk]
          by_cases h5 : L.length < 6
          · obtain ⟨R, e, hR⟩ := hp (fun _ => h5)
            rw [if_pos (nI_lt h5 (by decide)), if_neg (show ¬ full k a L from fun q => by rcases q with q | q <;> omega)]
            simp only [Option.bind_some, f_X3_hasRoomFor_J35]
            rw [if_neg (by decide), ← hr.1, e]
            simp only [Option.bind_some, lt_v, f_X3_amount]
            refine ⟨_, rfl, ?_, fun _ => ⟨hR, rfl⟩⟩
            show R.2.2.2 = _
            rw [hR.2.1, pour_tot]
          · rw [if_neg (nI_nlt (by omega) (by omega))]
            simp only [Option.bind_some]
            cases q : ends k L with
            | false =>
              rw [if_pos (show full k a L from Or.inr ⟨h5, q⟩), if_pos (show (if false = true then (1 : Int32) else 0) = 0 from rfl)]
              simp only [Option.bind_some]
              exact ⟨_, rfl, rfl, (by first | exact ngA | exact ngB | exact ngC | exact ngD)⟩
            | true =>
              obtain ⟨R, e, hR⟩ := hp (fun z => by rw [q] at z; cases z)
              rw [if_neg (show ¬ full k a L from fun z => by rcases z with z | z; (exact absurd z (by omega)); (rw [q] at z; exact absurd z.2 (by decide))), if_neg (show ¬ (if true = true then (1 : Int32) else 0) = 0 by decide)]
              simp only [Option.bind_some, f_X3_hasRoomFor_J35]
              rw [if_neg (by decide), ← hr.1, e]
              simp only [Option.bind_some, lt_v, f_X3_amount]
              refine ⟨_, rfl, ?_, fun _ => ⟨hR, rfl⟩⟩
              show R.2.2.2 = _
              rw [hR.2.1, pour_tot]
  · rw [is01_f h1]
    simp only [Option.bind_some]
    rw [if_pos trivial, if_pos (Or.inl h1)]
    exact ⟨_, rfl, rfl, (by first | exact ngA | exact ngB | exact ngC | exact ngD)⟩
theorem no_neg {c : Int32} {P : Prop} (h : c < 0) : 0 ≤ c → P := fun q => absurd q (by
  rw [Int32.le_iff_toInt_le]
  rw [Int32.lt_iff_toInt_lt] at h
  omega)
theorem p_maxz {a b : Nat} (ha : a < 2 ^ 30) (hb : b < 2 ^ 30) : (if (0 : Int32) < nI a - nI b then nI a - nI b else 0) = nI (a - b) := by
  by_cases h : b ≤ a
  · rw [pk_sub h]
    by_cases h2 : 0 < a - b
    · rw [if_pos (by rw [fa_L]; exact nI_lt h2 (by omega))]
    · rw [if_neg (by rw [fa_L]; exact nI_nlt (by omega) (by omega)), show a - b = 0 by omega, nI_0]
  · have hn := pk_sneg (a := a) (b := b) hb (by omega)
    rw [if_neg (fun q => ?_), show a - b = 0 by omega, nI_0]
    rw [Int32.lt_iff_toInt_lt] at hn q
    omega
/-- a burr behind a grinding -/
def buG (b : Bu) (a : Nat) : Bu := (b.1, min 300 (b.2.1 + a / 4), b.2.2.1 + nI a, b.2.2.2)
def buC (b : Bu) (n : Nat) : Bu := (b.1, cl n b.2.1, b.2.2.1, b.2.2.2)
/-- which portions come, what the chute has then, what comes out -/
def g_in (lo ch : List (Nat × Nat)) (d w b a : Nat) : List (Nat × Nat) := ch ++ mk2 (fun m => 4 * gp d w + 2 * b + m) (tk a lo).1
def g_out (ch : List (Nat × Nat)) (a c : Nat) : Nat := tot ch + a - c
theorem g_in_tot {lo ch : List (Nat × Nat)} {d w b a : Nat} (h : a ≤ tot lo) : tot (g_in lo ch d w b a) = tot ch + a := by
  unfold g_in
  rw [tot_app, mk2_tot, (tk_tot lo a).1]
  omega
theorem mk2_ok {L : List (Nat × Nat)} {g : Nat → Nat} (h : okR L) (hg : ∀ p ∈ L, g p.2 < 4096) : okR (mk2 g L) := fun q hq => by
  unfold mk2 at hq
  obtain ⟨p, hp, rfl⟩ := List.mem_map.mp hq
  have h1 := h p hp
  exact ⟨h1.1, h1.2.1, hg p hp⟩
theorem tk_mem {P : Nat → Prop} : ∀ {L : List (Nat × Nat)} (l : Nat), (∀ p ∈ L, P p.2) → (∀ p ∈ (tk l L).1, P p.2) ∧ ∀ p ∈ (tk l L).2, P p.2
  | [], l, h => ⟨h, h⟩
  | p :: L, l, h => by
    have h1 := h p List.mem_cons_self
    have h2 : ∀ q ∈ L, P q.2 := fun q hq => h q (List.mem_cons_of_mem _ hq)
    rw [tk]
    split
    · exact ⟨fun q hq => (by cases hq), h⟩
    · split
      · exact ⟨fun q hq => (by rcases List.mem_cons.mp hq with rfl | hq; exact h1; cases hq), fun q hq => (by rcases List.mem_cons.mp hq with rfl | hq; exact h1; exact h2 q hq)⟩
      · have h3 := tk_mem (l - p.1) h2
        exact ⟨fun q hq => (by rcases List.mem_cons.mp hq with rfl | hq; exact h1; exact h3.1 q hq), h3.2⟩
theorem gp_le {d w : Nat} (hd : d ≤ 60) : gp d w ≤ 600 := by unfold gp; omega
theorem gp_ge (d w : Nat) : 10 ≤ gp d w := by unfold gp; omega
theorem g_in_ok {lo ch : List (Nat × Nat)} {d w b a : Nat} (hlo : okR lo) (hk : ∀ p ∈ lo, p.2 < 2) (hch : okR ch) (hd : d ≤ 60) (hb : b < 2) : okR (g_in lo ch d w b a) := by
  have := gp_le (d := d) (w := w) hd
  refine okR_app hch (mk2_ok (tk_ok a hlo).1 (fun p hp => ?_))
  have := (tk_mem (P := fun m => m < 2) a hk).1 p hp
  omega
theorem g_in_mk {lo ch : List (Nat × Nat)} {d w b a : Nat} (hk : ∀ p ∈ lo, p.2 < 2) (hch : mkK ch) (hd : d ≤ 60) (hb : b < 2) : mkK (g_in lo ch d w b a) := by
  have h1 := gp_le (d := d) (w := w) hd
  have h2 := gp_ge d w
  intro q hq
  rcases List.mem_append.mp hq with hq | hq
  · exact hch q hq
  · unfold mk2 at hq
    obtain ⟨p, hp, rfl⟩ := List.mem_map.mp hq
    have := (tk_mem (P := fun m => m < 2) a hk).1 p hp
    exact ⟨by show 40 ≤ _ + _ + _; omega, by show _ + _ + _ < 2404; omega⟩
theorem g_in_len {lo ch : List (Nat × Nat)} {d w b a : Nat} : (g_in lo ch d w b a).length ≤ ch.length + lo.length := by
  unfold g_in
  rw [List.length_append, mk2_len]
  have := (tk_len lo a).1
  omega
theorem mk2_id (L : List (Nat × Nat)) : mk2 (fun m => m) L = L := by
  unfold mk2
  induction L with
  | nil => rfl
  | cons p L ih => rw [List.map_cons, ih]
/-- the beans' way: hopper, chute, basket (by one burr) -/
theorem p_way {lo ch ba : List (Nat × Nat)} {pA pM qA qM uA uM : Nat → Int32} {pn pt qn qt un ut : Int32} {d w b a c : Nat} (hlo : rowR lo pA pM pn pt) (hch : rowR ch qA qM qn qt) (hba : rowR ba uA uM un ut) (k1 : okR lo) (k2 : ∀ p ∈ lo, p.2 < 2) (k3 : tot lo ≤ 4000) (k4 : lo.length ≤ 6) (k5 : okR ch) (k6 : tot ch ≤ 100) (k7 : okR ba) (hd : d ≤ 60) (hb : b < 2) (ha : a ≤ tot lo) (ha2 : a ≤ 400) (hc : c ≤ 100) (ho : tot ba + g_out ch a c ≤ 400) :
    ∃ R R2, f_X3_letOut 6 106 (nI a) (nI b) (nI (gp d w)) pA pM pn pt qA qM qn qt = some R ∧ f_X5_letOut 106 400 (nI (g_out ch a c)) 0 R.2.2.2.2.1 R.2.2.2.2.2.1 R.2.2.2.2.2.2.1 R.2.2.2.2.2.2.2 uA uM un ut = some R2 ∧ rowR (tk a lo).2 R.1 R.2.1 R.2.2.1 R.2.2.2.1 ∧ rowR (tk (g_out ch a c) (g_in lo ch d w b a)).2 R2.1 R2.2.1 R2.2.2.1 R2.2.2.2.1 ∧ rowR (ba ++ (tk (g_out ch a c) (g_in lo ch d w b a)).1) R2.2.2.2.2.1 R2.2.2.2.2.2.1 R2.2.2.2.2.2.2.1 R2.2.2.2.2.2.2.2 := by
  have l1 := len_tot k5
  have l2 := len_tot k7
  have hg := gp_le (d := d) (w := w) hd
  obtain ⟨R, h1, h2, h3⟩ := p_letHop (N := 6) (N2 := 106) (l := a) (b := b) (gap := gp d w) (by decide) (by decide) k1 k2 hb (by omega) hlo hch ha (by omega) k4 (by omega)
  have t1 := g_in_tot (lo := lo) (ch := ch) (d := d) (w := w) (b := b) ha
  have o1 := g_in_ok (lo := lo) (ch := ch) (d := d) (w := w) (b := b) (a := a) k1 k2 k5 hd hb
  have n1 := g_in_len (lo := lo) (ch := ch) (d := d) (w := w) (b := b) (a := a)
  have o2 := (tk_ok (g_out ch a c) o1).1
  have t2 := (tk_tot (g_in lo ch d w b a) (g_out ch a c)).1
  have l3 := len_tot o2
  obtain ⟨R2, h4, h5, h6⟩ := p_letOut (N := 106) (N2 := 400) (l := g_out ch a c) (y2 := 0) (g := fun m => m) (L := g_in lo ch d w b a) (L2 := ba) (by decide) (by decide) o1 h3 hba (by rw [t1]; unfold g_out; omega) (by rw [t1]; omega) (by omega) (by omega) (fun p _ => by
    rw [← nI_0, fa_or, Nat.or_zero])
  rw [mk2_id] at h6
  exact ⟨R, R2, h1, h4, h2, h5, h6⟩
end
section
/-! grinding -/
def bsel (b0 b1 : Bu) (b : Nat) : Bu := if b = 0 then b0 else b1
/-- the burrs behind a grinding by burr b -/
def bg0 (b0 : Bu) (b a n : Nat) : Bu := buC (if b = 0 then buG b0 a else b0) n
def bg1 (b1 : Bu) (b a n : Nat) : Bu := buC (if b = 0 then b1 else buG b1 a) n
noncomputable def a_grind (x1 x2 : Int32) (lo ch ba : List (Nat × Nat)) (c : Nat) : Int32 := by
  classical
  exact if bad2 x1 x2 400 then cIA else if tot lo < x2.toNatClampNeg then cNP else if 400 < tot ba + g_out ch x2.toNatClampNeg c then cLR else nI (g_out ch x2.toNatClampNeg c)
theorem buG_w (b : Bu) (a : Nat) (h : b.2.1 ≤ 300) : (buG b a).2.1 ≤ 300 := by show min 300 _ ≤ 300; omega
theorem p_grindBy {lo ch ba : List (Nat × Nat)} {b0 b1 : Bu} {v : Nat → Nat} {sec : Nat} {pA pM qA qM uA uM st : Nat → Int32} {pn pt d0 w0 g0 d1 w1 g1 qn qt un ut se gr i0 i1 : Int32} (hlo : rowR lo pA pM pn pt) (hch : rowR ch qA qM qn qt) (hba : rowR ba uA uM un ut) (h0 : buR b0 d0 w0 g0 i0) (h1 : buR b1 d1 w1 g1 i1) (hs : stR v st) (hse : se = nI sec) (k1 : okR lo) (k2 : ∀ p ∈ lo, p.2 < 2) (k3 : tot lo ≤ 4000) (k4 : lo.length ≤ 6) (k5 : okR ch) (k6 : tot ch ≤ 100) (k7 : okR ba) (k8 : tot ba ≤ 400) (k9 : buK b0) (k10 : buK b1) (k11 : stK v) (k12 : sec < 2 ^ 28) (x1 x2 : Int32) :
    ∃ R, f_X1_grindBy x1 x2 pA pM pn pt d0 w0 g0 d1 w1 g1 qA qM qn qt uA uM un ut st se gr = some R ∧ R.1 = a_grind x1 x2 lo ch ba (v 2) ∧ (0 ≤ R.1 → ∀ (b a : Nat), b < 2 → x1 = nI b → x2 = nI a → a < 2 ^ 31 →
      rowR (tk a lo).2 R.2.1 R.2.2.1 R.2.2.2.1 R.2.2.2.2.1 ∧
      (R.2.2.2.2.2.1 = nI (bg0 b0 b a (tmz sec ((a + 9) / 10))).2.1 ∧ R.2.2.2.2.2.2.1 = (bg0 b0 b a (tmz sec ((a + 9) / 10))).2.2.1) ∧
      (R.2.2.2.2.2.2.2.1 = nI (bg1 b1 b a (tmz sec ((a + 9) / 10))).2.1 ∧ R.2.2.2.2.2.2.2.2.1 = (bg1 b1 b a (tmz sec ((a + 9) / 10))).2.2.1) ∧
      rowR (tk (g_out ch a (v 2)) (g_in lo ch (bsel b0 b1 b).1 (bsel b0 b1 b).2.1 b a)).2 R.2.2.2.2.2.2.2.2.2.1 R.2.2.2.2.2.2.2.2.2.2.1 R.2.2.2.2.2.2.2.2.2.2.2.1 R.2.2.2.2.2.2.2.2.2.2.2.2.1 ∧
      rowR (ba ++ (tk (g_out ch a (v 2)) (g_in lo ch (bsel b0 b1 b).1 (bsel b0 b1 b).2.1 b a)).1) R.2.2.2.2.2.2.2.2.2.2.2.2.2.1 R.2.2.2.2.2.2.2.2.2.2.2.2.2.2.1 R.2.2.2.2.2.2.2.2.2.2.2.2.2.2.2.1 R.2.2.2.2.2.2.2.2.2.2.2.2.2.2.2.2.1 ∧
      R.2.2.2.2.2.2.2.2.2.2.2.2.2.2.2.2.2.1 = nI (sec + (a + 9) / 10) ∧ R.2.2.2.2.2.2.2.2.2.2.2.2.2.2.2.2.2.2 = gr + nI a) := by
  unfold a_grind
  rw [f_X1_grindBy]
  by_cases c1 : x1 = 0 ∨ x1 = 1
  · obtain ⟨b, hb, rfl⟩ := v01 c1
    rw [is01_t hb]
    simp only [Option.bind_some]
    rw [if_neg (by decide)]
    by_cases c2 : x2 < 1
    · rw [if_pos c2, if_pos (Or.inr (Or.inl c2))]
      exact ⟨_, rfl, rfl, (by first | exact ngA | exact ngB | exact ngC | exact ngD)⟩
    · rw [if_neg c2]
      by_cases c3 : (400 : Int32) < x2
      · rw [if_neg (Int32.not_le.mpr c3), if_pos (show bad2 _ _ 400 from Or.inr (Or.inr c3))]
        exact ⟨_, rfl, rfl, (by first | exact ngA | exact ngB | exact ngC | exact ngD)⟩
      · obtain ⟨a, ha1, ha2, rfl⟩ := v_rng (hi := 400) (by decide) c2 c3
        rw [if_pos (Int32.not_lt.mp c3), if_neg (show ¬ bad2 _ _ 400 from fun q => by rcases q with q | q | q; exact q c1; exact c2 q; exact c3 q), v_cl (by omega)]
        simp only [f_X3_amount, Option.bind_some]
        rw [hlo.2.1]
        by_cases c4 : tot lo < a
        · rw [if_neg (nI_ge c4 (by omega)), if_pos c4]
          exact ⟨_, rfl, rfl, (by first | exact ngA | exact ngB | exact ngC | exact ngD)⟩
        · have e2 : st (2 : Int32).toNatClampNeg = nI (v 2) := hs 2 (by decide)
          have hc : v 2 ≤ 100 := k11.2.2.2.1
          rw [if_pos (nI_le (by omega) (by omega)), if_neg c4, hch.2.1, e2, nI_add, p_maxz (by omega) (by omega), lt_v]
          have eo : tot ch + a - v 2 = g_out ch a (v 2) := rfl
          rw [eo, hba.2.1, nI_add, fa_lit 400]
          by_cases c5 : 400 < tot ba + g_out ch a (v 2)
          · have : g_out ch a (v 2) ≤ 500 := by unfold g_out; omega
            rw [if_neg (nI_ge c5 (by omega)), if_pos c5]
            exact ⟨_, rfl, rfl, (by first | exact ngA | exact ngB | exact ngC | exact ngD)⟩
          · rw [if_pos (nI_le (by omega) (by decide)), if_neg c5]
            obtain ⟨rfl, rfl, rfl, rfl⟩ := h0
            obtain ⟨rfl, rfl, rfl, rfl⟩ := h1
            subst hse
            have ht9 : nI a + (9 : Int32) = nI (a + 9) := by rw [fa_lit 9, nI_add]
            have ht : (nI a + (9 : Int32)) / 10 = nI ((a + 9) / 10) := by rw [ht9, fa_lit 10, pk_div (by omega) (by decide) (by decide)]
            rcases (show b = 0 ∨ b = 1 by omega) with rfl | rfl
            · obtain ⟨R, R2, r1, r2, r3, r4, r5⟩ := p_way (d := b0.1) (w := b0.2.1) (b := 0) (a := a) (c := v 2) hlo hch hba k1 k2 k3 k4 k5 k6 k7 k9.2.1 (by decide) (by omega) ha2 hc (by omega)
              rw [← hlo.2.1, ← hch.2.1, ← hba.2.1, if_pos nI_0, p_gap (by have := k9.2.1; omega) (by have := k9.2.2; omega)]
              simp only [Option.bind_some]
              rw [r1]
              simp only [Option.bind_some]
              rw [p_warm (by omega) (by have := k9.2.2; omega)]
              simp only [Option.bind_some]
              rw [r2]
              simp only [Option.bind_some, lt_v]
              rw [ht, p_pass (se := sec) (n := (a + 9) / 10) (w0 := min 300 (b0.2.1 + a / 4)) (w1 := b1.2.1) (by omega) (by omega) (buG_w b0 a k9.2.2) k10.2.2]
              simp only [Option.bind_some]
              refine ⟨_, rfl, rfl, fun _ b' a' hb' e1 e3 ha' => ?_⟩
              have q1 : b' = 0 := ((nI_eq (by omega) (by omega)).mp e1).symm
              have q2 : a' = a := ((nI_eq (by omega) ha').mp e3).symm
              subst q1; subst q2
              exact ⟨r3, ⟨rfl, rfl⟩, ⟨rfl, rfl⟩, r4, r5, rfl, rfl⟩
            · obtain ⟨R, R2, r1, r2, r3, r4, r5⟩ := p_way (d := b1.1) (w := b1.2.1) (b := 1) (a := a) (c := v 2) hlo hch hba k1 k2 k3 k4 k5 k6 k7 k10.2.1 (by decide) (by omega) ha2 hc (by omega)
              rw [← hlo.2.1, ← hch.2.1, ← hba.2.1, if_neg (by decide), p_gap (by have := k10.2.1; omega) (by have := k10.2.2; omega)]
              simp only [Option.bind_some]
              rw [r1]
              simp only [Option.bind_some]
              rw [p_warm (by omega) (by have := k10.2.2; omega)]
              simp only [Option.bind_some]
              rw [r2]
              simp only [Option.bind_some, lt_v]
              rw [ht, p_pass (se := sec) (n := (a + 9) / 10) (w0 := b0.2.1) (w1 := min 300 (b1.2.1 + a / 4)) (by omega) (by omega) k9.2.2 (buG_w b1 a k10.2.2)]
              simp only [Option.bind_some]
              refine ⟨_, rfl, rfl, fun _ b' a' hb' e1 e3 ha' => ?_⟩
              have q1 : b' = 1 := ((nI_eq (by omega) (by omega)).mp e1).symm
              have q2 : a' = a := ((nI_eq (by omega) ha').mp e3).symm
              subst q1; subst q2
              exact ⟨r3, ⟨rfl, rfl⟩, ⟨rfl, rfl⟩, r4, r5, rfl, rfl⟩
  · rw [is01_f c1]
    simp only [Option.bind_some]
    rw [if_pos trivial, if_pos (Or.inl c1)]
    exact ⟨_, rfl, rfl, (by first | exact ngA | exact ngB | exact ngC | exact ngD)⟩
end
section
/-! the other changes -/
noncomputable def a_dial (x1 x2 : Int32) (b0 b1 : Bu) : Int32 := by
  classical
  exact if bad2 x1 x2 60 then cIA else nI (bsel b0 b1 x1.toNatClampNeg).1
theorem p_turnDial {b0 b1 : Bu} (k0 : buK b0) (k1 : buK b1) (x1 x2 : Int32) : ∃ R, f_X1_turnDial x1 x2 (nI b0.1) (nI b1.1) = some R ∧ R.1 = a_dial x1 x2 b0 b1 ∧ (0 ≤ R.1 → ∀ (b a : Nat), b < 2 → x1 = nI b → x2 = nI a → a < 2 ^ 31 → R.2.1 = nI (if b = 0 then a else b0.1) ∧ R.2.2 = nI (if b = 0 then b1.1 else a)) := by
  unfold a_dial
  rw [f_X1_turnDial]
  by_cases c1 : x1 = 0 ∨ x1 = 1
  · obtain ⟨b, hb, rfl⟩ := v01 c1
    rw [is01_t hb]
    simp only [Option.bind_some]
    rw [if_neg (by decide)]
    by_cases c2 : x2 < 1
    · rw [if_pos c2, if_pos (Or.inr (Or.inl c2))]
      exact ⟨_, rfl, rfl, (by first | exact ngA | exact ngB | exact ngC | exact ngD)⟩
    · rw [if_neg c2]
      by_cases c3 : (60 : Int32) < x2
      · rw [if_neg (Int32.not_le.mpr c3), if_pos (show bad2 _ _ 60 from Or.inr (Or.inr c3))]
        exact ⟨_, rfl, rfl, (by first | exact ngA | exact ngB | exact ngC | exact ngD)⟩
      · obtain ⟨a, ha1, ha2, rfl⟩ := v_rng (hi := 60) (by decide) c2 c3
        rw [if_pos (Int32.not_lt.mp c3), if_neg (show ¬ bad2 _ _ 60 from fun q => by rcases q with q | q | q; exact q c1; exact c2 q; exact c3 q), v_cl (by omega)]
        rcases (show b = 0 ∨ b = 1 by omega) with rfl | rfl
        · rw [if_pos nI_0]
          refine ⟨_, rfl, rfl, fun _ b' a' hb' e1 e3 ha' => ?_⟩
          have q1 : b' = 0 := ((nI_eq (by omega) (by omega)).mp e1).symm
          have q2 : a' = a := ((nI_eq (by omega) ha').mp e3).symm
          subst q1; subst q2
          exact ⟨rfl, rfl⟩
        · rw [if_neg (by decide)]
          refine ⟨_, rfl, rfl, fun _ b' a' hb' e1 e3 ha' => ?_⟩
          have q1 : b' = 1 := ((nI_eq (by omega) (by omega)).mp e1).symm
          have q2 : a' = a := ((nI_eq (by omega) ha').mp e3).symm
          subst q1; subst q2
          exact ⟨rfl, rfl⟩
  · rw [is01_f c1]
    simp only [Option.bind_some]
    rw [if_pos trivial, if_pos (Or.inl c1)]
    exact ⟨_, rfl, rfl, (by first | exact ngA | exact ngB | exact ngC | exact ngD)⟩
noncomputable def a_rest (x1 : Int32) (w0 w1 sec : Nat) : Int32 := by
  classical
  exact if x1 < 1 ∨ nI 999 < x1 then cIA else nI (w0 + w1 - cl (tmz sec x1.toNatClampNeg) w0 - cl (tmz sec x1.toNatClampNeg) w1)
theorem p_letPass {w0 w1 sec : Nat} (h0 : w0 ≤ 300) (h1 : w1 ≤ 300) (hs : sec < 2 ^ 28) (x1 : Int32) : ∃ R, f_X1_letPass x1 (nI w0) (nI w1) (nI sec) = some R ∧ R.1 = a_rest x1 w0 w1 sec ∧ (0 ≤ R.1 → ∀ n : Nat, x1 = nI n → n < 2 ^ 31 → R.2.1 = nI (cl (tmz sec n) w0) ∧ R.2.2.1 = nI (cl (tmz sec n) w1) ∧ R.2.2.2 = nI (sec + n)) := by
  unfold a_rest
  rw [f_X1_letPass]
  by_cases c2 : x1 < 1
  · rw [if_pos c2, if_pos (Or.inl c2)]
    exact ⟨_, rfl, rfl, (by first | exact ngA | exact ngB | exact ngC | exact ngD)⟩
  · rw [if_neg c2]
    by_cases c3 : (999 : Int32) < x1
    · rw [if_neg (Int32.not_le.mpr c3), if_pos (show x1 < 1 ∨ nI 999 < x1 from Or.inr c3)]
      exact ⟨_, rfl, rfl, (by first | exact ngA | exact ngB | exact ngC | exact ngD)⟩
    · obtain ⟨a, ha1, ha2, rfl⟩ := v_rng (hi := 999) (by decide) c2 c3
      have l0 := cl_le (tmz sec a) w0
      have l1 := cl_le (tmz sec a) w1
      rw [if_pos (Int32.not_lt.mp c3), if_neg (show ¬ (nI a < 1 ∨ nI 999 < nI a) from fun q => by rcases q with q | q; exact c2 q; exact c3 q), v_cl (by omega), lt_v, p_pass (by omega) (by omega) h0 h1]
      simp only [Option.bind_some]
      refine ⟨_, rfl, ?_, fun _ n e hn => ?_⟩
      · show nI w0 + nI w1 - nI _ - nI _ = _
        rw [nI_add, pk_sub (by omega), pk_sub (by omega)]
      · have q : n = a := ((nI_eq (by omega) hn).mp e).symm
        subst q
        exact ⟨rfl, rfl, rfl⟩
theorem p_emptyChute (qn pu : Int32) (T : Nat) : f_X1_emptyChute qn (nI T) pu = some (nI T, 0, 0, pu + nI T) := rfl
/-- the burr of a shot, its kind -/
def mostly (b : Nat → Bool) (L : List (Nat × Nat)) : Nat := if tot L < 2 * sumIf b L then 1 else 0
def isB (m : Nat) : Bool := m / 2 % 2 == 1
def isK (m : Nat) : Bool := m % 2 == 1
/-- a burr that is corrected, if it has to be -/
def buX (b : Bu) (t g : Nat) : Bu := (cor b.1 t g, b.2.1, b.2.2.1, b.2.2.2 + 1)
theorem p_judge_0 {b : Bu} {v : Nat → Nat} {st : Nat → Int32} {t : Nat} (hs : stR v st) (hv : stK v) (hb : buK b) (ht : t ≤ 30000) (nr : Int32) : f_X1_judge_0 (nI t) (nI b.1) b.2.2.2 st nr = some (if aw t (v 0) ≤ v 1 then (nI b.1, b.2.2.2, nr + 1) else if v 5 = 1 then (nI (buX b t (v 0)).1, (buX b t (v 0)).2.2.2, nr) else (nI b.1, b.2.2.2, nr)) := by
  obtain ⟨v1, v2, v3, v4, v5, v6, v7, v8, v9⟩ := hv
  have e0 : st (0 : Int32).toNatClampNeg = nI (v 0) := hs 0 (by decide)
  have e1 : st (1 : Int32).toNatClampNeg = nI (v 1) := hs 1 (by decide)
  have e5 : st (5 : Int32).toNatClampNeg = nI (v 5) := hs 5 (by decide)
  have ha : aw t (v 0) < 2 ^ 30 := by unfold aw; split <;> omega
  rw [f_X1_judge_0, e0, e1, e5, p_absI (by omega) (by omega), lt_v]
  by_cases h : aw t (v 0) ≤ v 1
  · rw [if_neg (nI_nlt h (by omega)), if_pos h]
    rfl
  · rw [if_pos (nI_lt (by omega) (by omega)), if_neg h]
    by_cases h5 : v 5 = 1
    · rw [if_pos (by rw [h5]; rfl), if_pos h5, p_correct hb.2.1 ht v1 v2]
      rfl
    · rw [if_neg (show ¬ nI (v 5) = (1 : Int32) from fun q => h5 ((nI_eq (b := 1) (by omega) (by decide)).mp q)), if_neg h5]
theorem p_judge_1 {b : Bu} {v : Nat → Nat} {st : Nat → Int32} {t : Nat} (hs : stR v st) (hv : stK v) (hb : buK b) (ht : t ≤ 30000) (nr : Int32) : f_X1_judge_1 (nI t) (nI b.1) b.2.2.2 st nr = some (if aw t (v 0) ≤ v 1 then (nI b.1, b.2.2.2, nr + 1) else if v 5 = 1 then (nI (buX b t (v 0)).1, (buX b t (v 0)).2.2.2, nr) else (nI b.1, b.2.2.2, nr)) := by
  obtain ⟨v1, v2, v3, v4, v5, v6, v7, v8, v9⟩ := hv
  have e0 : st (0 : Int32).toNatClampNeg = nI (v 0) := hs 0 (by decide)
  have e1 : st (1 : Int32).toNatClampNeg = nI (v 1) := hs 1 (by decide)
  have e5 : st (5 : Int32).toNatClampNeg = nI (v 5) := hs 5 (by decide)
  have ha : aw t (v 0) < 2 ^ 30 := by unfold aw; split <;> omega
  rw [f_X1_judge_1, e0, e1, e5, p_absI (by omega) (by omega), lt_v]
  by_cases h : aw t (v 0) ≤ v 1
  · rw [if_neg (nI_nlt h (by omega)), if_pos h]
    rfl
  · rw [if_pos (nI_lt (by omega) (by omega)), if_neg h]
    by_cases h5 : v 5 = 1
    · rw [if_pos (by rw [h5]; rfl), if_pos h5, p_correct hb.2.1 ht v1 v2]
      rfl
    · rw [if_neg (show ¬ nI (v 5) = (1 : Int32) from fun q => h5 ((nI_eq (b := 1) (by omega) (by decide)).mp q)), if_neg h5]
end
section
/-! a shot -/
theorem hb_B {m : Nat} : nI m &&& (2 : Int32) = 0 ↔ isB m = false := by
  rw [fa_and2]
  unfold isB
  rcases Nat.mod_two_eq_zero_or_one (m / 2) with h | h
  · rw [h]; exact ⟨fun _ => rfl, fun _ => nI_0⟩
  · rw [h]
    exact ⟨fun q => absurd q (nI_ne0 (by decide) (by decide)), fun q => by cases q⟩
theorem hb_K {m : Nat} : nI m &&& (1 : Int32) = 0 ↔ isK m = false := by
  have e : nI m &&& (1 : Int32) = nI (m % 2) := fa_mask m 1
  rw [e]
  unfold isK
  rcases Nat.mod_two_eq_zero_or_one m with h | h
  · rw [h]; exact ⟨fun _ => rfl, fun _ => nI_0⟩
  · rw [h]
    exact ⟨fun q => absurd q (nI_ne0 (by decide) (by decide)), fun q => by cases q⟩
/-- the burr behind a shot's judging -/
def buJ (v : Nat → Nat) (t : Nat) (b : Bu) : Bu := if aw t (v 0) ≤ v 1 then b else if v 5 = 1 then buX b t (v 0) else b
theorem buJ_w (v : Nat → Nat) (t : Nat) (b : Bu) : (buJ v t b).2.1 = b.2.1 := by
  unfold buJ
  split
  · rfl
  · split <;> rfl
theorem buJ_g (v : Nat → Nat) (t : Nat) (b : Bu) : (buJ v t b).2.2.1 = b.2.2.1 := by
  unfold buJ
  split
  · rfl
  · split <;> rfl
def nrJ (v : Nat → Nat) (t : Nat) (nr : Int32) : Int32 := if aw t (v 0) ≤ v 1 then nr + 1 else nr
theorem p_judge0 {b : Bu} {v : Nat → Nat} {st : Nat → Int32} {t : Nat} (hs : stR v st) (hv : stK v) (hb : buK b) (ht : t ≤ 30000) (nr : Int32) : f_X1_judge_0 (nI t) (nI b.1) b.2.2.2 st nr = some (nI (buJ v t b).1, (buJ v t b).2.2.2, nrJ v t nr) := by
  rw [p_judge_0 hs hv hb ht]
  unfold buJ nrJ
  split
  · rfl
  · split <;> rfl
theorem p_judge1 {b : Bu} {v : Nat → Nat} {st : Nat → Int32} {t : Nat} (hs : stR v st) (hv : stK v) (hb : buK b) (ht : t ≤ 30000) (nr : Int32) : f_X1_judge_1 (nI t) (nI b.1) b.2.2.2 st nr = some (nI (buJ v t b).1, (buJ v t b).2.2.2, nrJ v t nr) := by
  rw [p_judge_1 hs hv hb ht]
  unfold buJ nrJ
  split
  · rfl
  · split <;> rfl
/-- the burrs behind a shot by burr b -/
def bs0 (v : Nat → Nat) (t b n : Nat) (b0 : Bu) : Bu := buC (if b = 0 then buJ v t b0 else b0) n
def bs1 (v : Nat → Nat) (t b n : Nat) (b1 : Bu) : Bu := buC (if b = 0 then b1 else buJ v t b1) n
theorem mostly_lt (b : Nat → Bool) (L : List (Nat × Nat)) : mostly b L < 2 := by
  unfold mostly
  split <;> omega
theorem mostly_I (b : Nat → Bool) (L : List (Nat × Nat)) : (if tot L < 2 * sumIf b L then (1 : Int32) else 0) = nI (mostly b L) := by
  unfold mostly
  split <;> rfl
def shotN (v : Nat → Nat) (ba : List (Nat × Nat)) (mk : Int32) (sec : Nat) : Sh := (mk, timeS v ba, nI (tot ba), nI (mostly isB ba), nI (mostly isK ba), nI sec, nI ba.length)
noncomputable def a_shot (v : Nat → Nat) (ba : List (Nat × Nat)) : Int32 := if tot ba = 0 then cNP else nI (timeS v ba)
theorem p_makeShot {ba : List (Nat × Nat)} {b0 b1 : Bu} {v : Nat → Nat} {K : List Sh} {sec : Nat} {uA uM st sF : Nat → Int32} {d0 w0 g0 i0 d1 w1 g1 i1 un ut se sk : Int32} (hba : rowR ba uA uM un ut) (h0 : buR b0 d0 w0 g0 i0) (h1 : buR b1 d1 w1 g1 i1) (hK : shR K sF sk) (hs : stR v st) (hse : se = nI sec) (k7 : okR ba) (k8 : tot ba ≤ 400) (k9 : buK b0) (k10 : buK b1) (k11 : stK v) (k12 : sec < 2 ^ 28) (sm br nr : Int32) :
    ∃ R, f_X1_makeShot d0 w0 i0 d1 w1 i1 uA uM un ut sF sk sm st se br nr = some R ∧ R.1 = a_shot v ba ∧ (0 ≤ R.1 → tot ba ≠ 0 ∧
      (R.2.1 = nI (bs0 v (timeS v ba) (mostly isB ba) (tmz sec (timeS v ba / 10)) b0).1 ∧ R.2.2.1 = nI (bs0 v (timeS v ba) (mostly isB ba) (tmz sec (timeS v ba / 10)) b0).2.1 ∧ R.2.2.2.1 = (bs0 v (timeS v ba) (mostly isB ba) (tmz sec (timeS v ba / 10)) b0).2.2.2) ∧
      (R.2.2.2.2.1 = nI (bs1 v (timeS v ba) (mostly isB ba) (tmz sec (timeS v ba / 10)) b1).1 ∧ R.2.2.2.2.2.1 = nI (bs1 v (timeS v ba) (mostly isB ba) (tmz sec (timeS v ba / 10)) b1).2.1 ∧ R.2.2.2.2.2.2.1 = (bs1 v (timeS v ba) (mostly isB ba) (tmz sec (timeS v ba / 10)) b1).2.2.2) ∧
      R.2.2.2.2.2.2.2.1 = 0 ∧ R.2.2.2.2.2.2.2.2.1 = 0 ∧
      shR ((shotN v ba sm sec :: K).take 12) R.2.2.2.2.2.2.2.2.2.1 R.2.2.2.2.2.2.2.2.2.2.1 ∧ R.2.2.2.2.2.2.2.2.2.2.2.1 = sm + 1 ∧
      R.2.2.2.2.2.2.2.2.2.2.2.2.1 = nI (sec + timeS v ba / 10) ∧ R.2.2.2.2.2.2.2.2.2.2.2.2.2.1 = br + nI (tot ba) ∧ R.2.2.2.2.2.2.2.2.2.2.2.2.2.2 = nrJ v (timeS v ba) nr) := by
  have hlen := len_tot k7
  have ht := timeS_le k11 ba
  unfold a_shot
  rw [f_X1_makeShot, p_time hs k11 hba k7 k8]
  simp only [Option.bind_some]
  by_cases h : tot ba = 0
  · rw [if_pos h, if_neg (by decide)]
    exact ⟨_, rfl, rfl, (by first | exact ngA | exact ngB | exact ngC | exact ngD)⟩
  · rw [if_neg h, if_pos (nI_pos' (by omega)), p_mostly (b := isB) (by decide) (by omega) (by omega) hba (fun p _ => hb_B), mostly_I]
    simp only [Option.bind_some]
    have eK : f_X5_isMostly 400 1 uA uM un ut = some (nI (mostly isK ba)) := by
      rw [p_mostly (b := isK) (by decide) (by omega) (by omega) hba (fun p _ => hb_K), mostly_I]
    obtain ⟨rfl, rfl, rfl, rfl⟩ := h0
    obtain ⟨rfl, rfl, rfl, rfl⟩ := h1
    subst hse
    have e10 : nI (timeS v ba) / 10 = nI (timeS v ba / 10) := by rw [fa_lit 10, pk_div (by omega) (by decide) (by decide)]
    obtain ⟨S, s1, s2, s3⟩ := p_addShot (t := timeS v ba) hK ht (nI (tot ba)) (nI (mostly isB ba)) (nI (mostly isK ba)) (nI sec) (nI ba.length) sm
    have hp := p_pass (se := sec) (n := timeS v ba / 10) (w0 := b0.2.1) (w1 := b1.2.1) (by omega) (by omega) k9.2.2 k10.2.2
    have hB := mostly_lt isB ba
    have hK2 := mostly_lt isK ba
    have key : ∀ z : Int32, z = nI (mostly isK ba) → ∃ R, f_X1_makeShot_J44 uA uM st (nI (timeS v ba)) (nI (mostly isB ba)) z (nI b0.1) (nI b0.2.1) b0.2.2.2 (nI b1.1) (nI b1.2.1) b1.2.2.2 un ut sF sk sm (nI sec) br nr = some R ∧ R.1 = nI (timeS v ba) ∧ (0 ≤ R.1 → tot ba ≠ 0 ∧
      (R.2.1 = nI (bs0 v (timeS v ba) (mostly isB ba) (tmz sec (timeS v ba / 10)) b0).1 ∧ R.2.2.1 = nI (bs0 v (timeS v ba) (mostly isB ba) (tmz sec (timeS v ba / 10)) b0).2.1 ∧ R.2.2.2.1 = (bs0 v (timeS v ba) (mostly isB ba) (tmz sec (timeS v ba / 10)) b0).2.2.2) ∧
      (R.2.2.2.2.1 = nI (bs1 v (timeS v ba) (mostly isB ba) (tmz sec (timeS v ba / 10)) b1).1 ∧ R.2.2.2.2.2.1 = nI (bs1 v (timeS v ba) (mostly isB ba) (tmz sec (timeS v ba / 10)) b1).2.1 ∧ R.2.2.2.2.2.2.1 = (bs1 v (timeS v ba) (mostly isB ba) (tmz sec (timeS v ba / 10)) b1).2.2.2) ∧
      R.2.2.2.2.2.2.2.1 = 0 ∧ R.2.2.2.2.2.2.2.2.1 = 0 ∧
      shR ((shotN v ba sm sec :: K).take 12) R.2.2.2.2.2.2.2.2.2.1 R.2.2.2.2.2.2.2.2.2.2.1 ∧ R.2.2.2.2.2.2.2.2.2.2.2.1 = sm + 1 ∧
      R.2.2.2.2.2.2.2.2.2.2.2.2.1 = nI (sec + timeS v ba / 10) ∧ R.2.2.2.2.2.2.2.2.2.2.2.2.2.1 = br + nI (tot ba) ∧ R.2.2.2.2.2.2.2.2.2.2.2.2.2.2 = nrJ v (timeS v ba) nr) := by
      intro z hz
      subst hz
      rw [f_X1_makeShot_J44, hba.1, hba.2.1, s1]
      simp only [Option.bind_some, lt_v, f_X5_clear]
      rw [e10, hp]
      rcases (show mostly isB ba = 0 ∨ mostly isB ba = 1 by omega) with q | q
      · rw [q, if_pos nI_0, p_judge0 hs k11 k9 ht]
        simp only [Option.bind_some]
        refine ⟨_, rfl, rfl, fun _ => ⟨h, ⟨?_, ?_, ?_⟩, ⟨?_, ?_, ?_⟩, rfl, rfl, ?_, s3, rfl, rfl, rfl⟩⟩
        · rfl
        · show nI (cl _ b0.2.1) = nI (cl _ (buJ v (timeS v ba) b0).2.1)
          rw [buJ_w]
        · rfl
        · rfl
        · rfl
        · rfl
        · unfold shotN
          rw [q] at s2 ⊢
          exact s2
      · rw [q, if_neg (nI_ne0 (by decide) (by decide)), p_judge1 hs k11 k10 ht]
        simp only [Option.bind_some]
        refine ⟨_, rfl, rfl, fun _ => ⟨h, ⟨?_, ?_, ?_⟩, ⟨?_, ?_, ?_⟩, rfl, rfl, ?_, s3, rfl, rfl, rfl⟩⟩
        · rfl
        · rfl
        · rfl
        · rfl
        · show nI (cl _ b1.2.1) = nI (cl _ (buJ v (timeS v ba) b1).2.1)
          rw [buJ_w]
        · rfl
        · unfold shotN
          rw [q] at s2 ⊢
          exact s2
    have keyJ : ∀ y : Int32, y = nI (mostly isB ba) → f_X1_makeShot_J27 uA uM st (nI (timeS v ba)) y (nI b0.1) (nI b0.2.1) b0.2.2.2 (nI b1.1) (nI b1.2.1) b1.2.2.2 un ut sF sk sm (nI sec) br nr = f_X1_makeShot_J44 uA uM st (nI (timeS v ba)) (nI (mostly isB ba)) (nI (mostly isK ba)) (nI b0.1) (nI b0.2.1) b0.2.2.2 (nI b1.1) (nI b1.2.1) b1.2.2.2 un ut sF sk sm (nI sec) br nr := by
      intro y hy
      subst hy
      rw [f_X1_makeShot_J27, eK]
      simp only [Option.bind_some]
      rcases (show mostly isK ba = 0 ∨ mostly isK ba = 1 by omega) with q | q
      · rw [q, if_pos nI_0]; rfl
      · rw [q, if_neg (nI_ne0 (by decide) (by decide))]; rfl
    obtain ⟨R, r1, r2, r3⟩ := key _ rfl
    refine ⟨R, ?_, r2, r3⟩
    rw [← r1]
    rcases (show mostly isB ba = 0 ∨ mostly isB ba = 1 by omega) with q | q
    · rw [if_pos (by rw [q]; exact nI_0)]
      exact keyJ 0 (by rw [q]; exact nI_0.symm)
    · rw [if_neg (by rw [q]; exact nI_ne0 (by decide) (by decide))]
      exact keyJ 1 (by rw [q]; rfl)
end
section
/-! a grinder as a whole: its state, what the changes make of it -/
def GR (σ : Sp) (g : Gr) : Prop := rowR (v_lo σ) g.1 g.2.1 g.2.2.1 g.2.2.2.1 ∧ buR (v_b0 σ) g.2.2.2.2.1 g.2.2.2.2.2.1 g.2.2.2.2.2.2.1 g.2.2.2.2.2.2.2.1 ∧ buR (v_b1 σ) g.2.2.2.2.2.2.2.2.1 g.2.2.2.2.2.2.2.2.2.1 g.2.2.2.2.2.2.2.2.2.2.1 g.2.2.2.2.2.2.2.2.2.2.2.1 ∧ rowR (v_ch σ) g.2.2.2.2.2.2.2.2.2.2.2.2.1 g.2.2.2.2.2.2.2.2.2.2.2.2.2.1 g.2.2.2.2.2.2.2.2.2.2.2.2.2.2.1 g.2.2.2.2.2.2.2.2.2.2.2.2.2.2.2.1 ∧ rowR (v_ba σ) g.2.2.2.2.2.2.2.2.2.2.2.2.2.2.2.2.1 g.2.2.2.2.2.2.2.2.2.2.2.2.2.2.2.2.2.1 g.2.2.2.2.2.2.2.2.2.2.2.2.2.2.2.2.2.2.1 g.2.2.2.2.2.2.2.2.2.2.2.2.2.2.2.2.2.2.2.1 ∧ shR (v_K σ) g.2.2.2.2.2.2.2.2.2.2.2.2.2.2.2.2.2.2.2.2.1 g.2.2.2.2.2.2.2.2.2.2.2.2.2.2.2.2.2.2.2.2.2.1 ∧ g.2.2.2.2.2.2.2.2.2.2.2.2.2.2.2.2.2.2.2.2.2.2.1 = v_mk σ ∧ stR (v_st σ) g.2.2.2.2.2.2.2.2.2.2.2.2.2.2.2.2.2.2.2.2.2.2.2.1 ∧ g.2.2.2.2.2.2.2.2.2.2.2.2.2.2.2.2.2.2.2.2.2.2.2.2.1 = nI (v_se σ) ∧ g.2.2.2.2.2.2.2.2.2.2.2.2.2.2.2.2.2.2.2.2.2.2.2.2.2.1 = v_fi σ ∧ g.2.2.2.2.2.2.2.2.2.2.2.2.2.2.2.2.2.2.2.2.2.2.2.2.2.2.1 = v_gr σ ∧ g.2.2.2.2.2.2.2.2.2.2.2.2.2.2.2.2.2.2.2.2.2.2.2.2.2.2.2.1 = v_br σ ∧ g.2.2.2.2.2.2.2.2.2.2.2.2.2.2.2.2.2.2.2.2.2.2.2.2.2.2.2.2.1 = v_pu σ ∧ g.2.2.2.2.2.2.2.2.2.2.2.2.2.2.2.2.2.2.2.2.2.2.2.2.2.2.2.2.2 = v_nr σ
/-- what every state keeps; its second is at most B -/
def KK (σ : Sp) (B : Nat) : Prop := okR (v_lo σ) ∧ (∀ p ∈ v_lo σ, p.2 < 2) ∧ tot (v_lo σ) ≤ 4000 ∧ (v_lo σ).length ≤ 6 ∧ okR (v_ch σ) ∧ mkK (v_ch σ) ∧ tot (v_ch σ) ≤ 100 ∧ okR (v_ba σ) ∧ mkK (v_ba σ) ∧ tot (v_ba σ) ≤ 400 ∧ buK (v_b0 σ) ∧ buK (v_b1 σ) ∧ stK (v_st σ) ∧ v_se σ ≤ B
abbrev nx (x : Int32) : Nat := x.toNatClampNeg
def o_fill (k a : Nat) (σ : Sp) : Sp := (pour k a (v_lo σ), v_ch σ, v_ba σ, v_b0 σ, v_b1 σ, v_K σ, v_mk σ, v_st σ, v_se σ, v_fi σ + nI a, v_gr σ, v_br σ, v_pu σ, v_nr σ)
def o_grind (b a : Nat) (σ : Sp) : Sp := ((tk a (v_lo σ)).2, (tk (g_out (v_ch σ) a (v_st σ 2)) (g_in (v_lo σ) (v_ch σ) (bsel (v_b0 σ) (v_b1 σ) b).1 (bsel (v_b0 σ) (v_b1 σ) b).2.1 b a)).2, v_ba σ ++ (tk (g_out (v_ch σ) a (v_st σ 2)) (g_in (v_lo σ) (v_ch σ) (bsel (v_b0 σ) (v_b1 σ) b).1 (bsel (v_b0 σ) (v_b1 σ) b).2.1 b a)).1, bg0 (v_b0 σ) b a (tmz (v_se σ) ((a + 9) / 10)), bg1 (v_b1 σ) b a (tmz (v_se σ) ((a + 9) / 10)), v_K σ, v_mk σ, v_st σ, v_se σ + (a + 9) / 10, v_fi σ, v_gr σ + nI a, v_br σ, v_pu σ, v_nr σ)
def o_dial (b d : Nat) (σ : Sp) : Sp := (v_lo σ, v_ch σ, v_ba σ, (if b = 0 then (d, (v_b0 σ).2) else v_b0 σ), (if b = 0 then v_b1 σ else (d, (v_b1 σ).2)), v_K σ, v_mk σ, v_st σ, v_se σ, v_fi σ, v_gr σ, v_br σ, v_pu σ, v_nr σ)
def o_rest (n : Nat) (σ : Sp) : Sp := (v_lo σ, v_ch σ, v_ba σ, buC (v_b0 σ) (tmz (v_se σ) n), buC (v_b1 σ) (tmz (v_se σ) n), v_K σ, v_mk σ, v_st σ, v_se σ + n, v_fi σ, v_gr σ, v_br σ, v_pu σ, v_nr σ)
def o_shot (σ : Sp) : Sp := (v_lo σ, v_ch σ, [], bs0 (v_st σ) (timeS (v_st σ) (v_ba σ)) (mostly isB (v_ba σ)) (tmz (v_se σ) (timeS (v_st σ) (v_ba σ) / 10)) (v_b0 σ), bs1 (v_st σ) (timeS (v_st σ) (v_ba σ)) (mostly isB (v_ba σ)) (tmz (v_se σ) (timeS (v_st σ) (v_ba σ) / 10)) (v_b1 σ), (shotN (v_st σ) (v_ba σ) (v_mk σ) (v_se σ) :: v_K σ).take 12, v_mk σ + 1, v_st σ, v_se σ + timeS (v_st σ) (v_ba σ) / 10, v_fi σ, v_gr σ, v_br σ + nI (tot (v_ba σ)), v_pu σ, nrJ (v_st σ) (timeS (v_st σ) (v_ba σ)) (v_nr σ))
def o_purge (σ : Sp) : Sp := (v_lo σ, [], v_ba σ, v_b0 σ, v_b1 σ, v_K σ, v_mk σ, v_st σ, v_se σ, v_fi σ, v_gr σ, v_br σ, v_pu σ + nI (tot (v_ch σ)), v_nr σ)
def o_corr (b : Nat) (σ : Sp) : Sp := (v_lo σ, v_ch σ, v_ba σ, (if b = 0 then buX (v_b0 σ) (sk0 (v_K σ) 0).2.1 (v_st σ 0) else v_b0 σ), (if b = 0 then v_b1 σ else buX (v_b1 σ) (sk0 (v_K σ) 0).2.1 (v_st σ 0)), v_K σ, v_mk σ, v_st σ, v_se σ, v_fi σ, v_gr σ, v_br σ, v_pu σ, v_nr σ)
def updN (v : Nat → Nat) (i a : Nat) : Nat → Nat := fun k => if k = i then a else v k
def o_set (i a : Nat) (σ : Sp) : Sp := (v_lo σ, v_ch σ, v_ba σ, v_b0 σ, v_b1 σ, v_K σ, v_mk σ, updN (v_st σ) i a, v_se σ, v_fi σ, v_gr σ, v_br σ, v_pu σ, v_nr σ)
theorem b2_no {x1 x2 : Int32} {hi : Nat} (hh : hi < 2 ^ 31) (h : ¬ bad2 x1 x2 hi) : nx x1 < 2 ∧ 1 ≤ nx x2 ∧ nx x2 ≤ hi ∧ x1 = nI (nx x1) ∧ x2 = nI (nx x2) := by
  have h1 : x1 = 0 ∨ x1 = 1 := Classical.byContradiction (fun q => h (Or.inl q))
  have h2 : ¬ x2 < 1 := fun q => h (Or.inr (Or.inl q))
  have h3 : ¬ nI hi < x2 := fun q => h (Or.inr (Or.inr q))
  obtain ⟨k, hk, rfl⟩ := v01 h1
  obtain ⟨a, ha1, ha2, rfl⟩ := v_rng hh h2 h3
  show (nI k).toNatClampNeg < 2 ∧ 1 ≤ (nI a).toNatClampNeg ∧ (nI a).toNatClampNeg ≤ hi ∧ nI k = nI (nI k).toNatClampNeg ∧ nI a = nI (nI a).toNatClampNeg
  rw [v_cl (by omega), v_cl (by omega)]
  exact ⟨hk, ha1, ha2, rfl, rfl⟩
theorem afill_ok {x1 x2 : Int32} {L : List (Nat × Nat)} (h : 0 ≤ a_fill x1 x2 L) : ¬ bad2 x1 x2 999 ∧ ¬ full (nx x1) (nx x2) L ∧ a_fill x1 x2 L = nI (tot L + nx x2) := by
  unfold a_fill at h ⊢
  by_cases c1 : bad2 x1 x2 999
  · rw [if_pos c1] at h; exact absurd h (by decide)
  · rw [if_neg c1] at h ⊢
    by_cases c2 : full x1.toNatClampNeg x2.toNatClampNeg L
    · rw [if_pos c2] at h; exact absurd h (by decide)
    · rw [if_neg c2]; exact ⟨c1, c2, rfl⟩
theorem agrind_ok {x1 x2 : Int32} {lo ch ba : List (Nat × Nat)} {c : Nat} (h : 0 ≤ a_grind x1 x2 lo ch ba c) : ¬ bad2 x1 x2 400 ∧ nx x2 ≤ tot lo ∧ tot ba + g_out ch (nx x2) c ≤ 400 ∧ a_grind x1 x2 lo ch ba c = nI (g_out ch (nx x2) c) := by
  unfold a_grind at h ⊢
  by_cases c1 : bad2 x1 x2 400
  · rw [if_pos c1] at h; exact absurd h (by decide)
  · rw [if_neg c1] at h ⊢
    by_cases c2 : tot lo < x2.toNatClampNeg
    · rw [if_pos c2] at h; exact absurd h (by decide)
    · rw [if_neg c2] at h ⊢
      by_cases c3 : 400 < tot ba + g_out ch x2.toNatClampNeg c
      · rw [if_pos c3] at h; exact absurd h (by decide)
      · rw [if_neg c3]; exact ⟨c1, Nat.not_lt.mp c2, Nat.not_lt.mp c3, rfl⟩
theorem adial_ok {x1 x2 : Int32} {b0 b1 : Bu} (h : 0 ≤ a_dial x1 x2 b0 b1) : ¬ bad2 x1 x2 60 ∧ a_dial x1 x2 b0 b1 = nI (bsel b0 b1 (nx x1)).1 := by
  unfold a_dial at h ⊢
  by_cases c1 : bad2 x1 x2 60
  · rw [if_pos c1] at h; exact absurd h (by decide)
  · rw [if_neg c1]; exact ⟨c1, rfl⟩
theorem arest_ok {x1 : Int32} {w0 w1 sec : Nat} (h : 0 ≤ a_rest x1 w0 w1 sec) : 1 ≤ nx x1 ∧ nx x1 ≤ 999 ∧ x1 = nI (nx x1) ∧ a_rest x1 w0 w1 sec = nI (w0 + w1 - cl (tmz sec (nx x1)) w0 - cl (tmz sec (nx x1)) w1) := by
  unfold a_rest at h ⊢
  by_cases c1 : x1 < 1 ∨ nI 999 < x1
  · rw [if_pos c1] at h; exact absurd h (by decide)
  · rw [if_neg c1]
    obtain ⟨a, ha1, ha2, rfl⟩ := v_rng (by decide) (fun q => c1 (Or.inl q)) (fun q => c1 (Or.inr q))
    have e : (nI a).toNatClampNeg = a := v_cl (by omega)
    show 1 ≤ (nI a).toNatClampNeg ∧ (nI a).toNatClampNeg ≤ 999 ∧ nI a = nI (nI a).toNatClampNeg ∧ _ = nI (w0 + w1 - cl (tmz sec (nI a).toNatClampNeg) w0 - cl (tmz sec (nI a).toNatClampNeg) w1)
    rw [e]
    exact ⟨ha1, ha2, rfl, rfl⟩
theorem G_fillIn {σ : Sp} {g : Gr} {B : Nat} (h : GR σ g) (hk : KK σ B) (x1 x2 : Int32) : ∃ R, F_X1_fillIn x1 x2 g = some R ∧ R.1 = a_fill x1 x2 (v_lo σ) ∧ (0 ≤ R.1 → GR (o_fill (nx x1) (nx x2) σ) R.2) := by
  obtain ⟨hlo, hb0, hb1, hch, hba, hK, hmk, hst, hse, hfi, hgr, hbr, hpu, hnr⟩ := h
  obtain ⟨k1, k2, k3, k4, k5, k6, k7, k8, k9, k10, k11, k12, k13, k14⟩ := hk
  obtain ⟨R, h1, h2, h3⟩ := p_fillIn hlo k1 k3 k4 x1 x2 (g.2.2.2.2.2.2.2.2.2.2.2.2.2.2.2.2.2.2.2.2.2.2.2.2.2.1)
  rw [F_X1_fillIn, h1]
  simp only [Option.bind_some]
  refine ⟨_, rfl, h2, fun q => ?_⟩
  obtain ⟨a, b⟩ := h3 q
  have e := (b2_no (by decide) (afill_ok (h2 ▸ q)).1).2.2.2.2
  exact ⟨a, hb0, hb1, hch, hba, hK, hmk, hst, hse, (by show R.2.2.2.2.2 = v_fi σ + nI (nx x2); rw [b, hfi, ← e]), hgr, hbr, hpu, hnr⟩
theorem G_grindBy {σ : Sp} {g : Gr} {B : Nat} (h : GR σ g) (hk : KK σ B) (hB : B < 2 ^ 28) (x1 x2 : Int32) : ∃ R, F_X1_grindBy x1 x2 g = some R ∧ R.1 = a_grind x1 x2 (v_lo σ) (v_ch σ) (v_ba σ) (v_st σ 2) ∧ (0 ≤ R.1 → GR (o_grind (nx x1) (nx x2) σ) R.2) := by
  obtain ⟨hlo, hb0, hb1, hch, hba, hK, hmk, hst, hse, hfi, hgr, hbr, hpu, hnr⟩ := h
  obtain ⟨k1, k2, k3, k4, k5, k6, k7, k8, k9, k10, k11, k12, k13, k14⟩ := hk
  obtain ⟨R, h1, h2, h3⟩ := p_grindBy (gr := g.2.2.2.2.2.2.2.2.2.2.2.2.2.2.2.2.2.2.2.2.2.2.2.2.2.2.1) hlo hch hba hb0 hb1 hst hse k1 k2 k3 k4 k5 k7 k8 k10 k11 k12 k13 (by omega) x1 x2
  rw [F_X1_grindBy, h1]
  simp only [Option.bind_some]
  refine ⟨_, rfl, h2, fun q => ?_⟩
  obtain ⟨e1, e2, e3, e4, e5⟩ := b2_no (by decide) (agrind_ok (h2 ▸ q)).1
  obtain ⟨a1, ⟨a2, a3⟩, ⟨a4, a5⟩, a6, a7, a8, a9⟩ := h3 q (nx x1) (nx x2) e1 e4 e5 (by omega)
  refine ⟨a1, ⟨?_, a2, a3, ?_⟩, ⟨?_, a4, a5, ?_⟩, a6, a7, hK, hmk, hst, a8, hfi, ?_, hbr, hpu, hnr⟩
  · show _ = nI (bg0 (v_b0 σ) (nx x1) (nx x2) _).1
    unfold bg0 buC buG
    split <;> exact hb0.1
  · show _ = (bg0 (v_b0 σ) (nx x1) (nx x2) _).2.2.2
    unfold bg0 buC buG
    split <;> exact hb0.2.2.2
  · show _ = nI (bg1 (v_b1 σ) (nx x1) (nx x2) _).1
    unfold bg1 buC buG
    split <;> exact hb1.1
  · show _ = (bg1 (v_b1 σ) (nx x1) (nx x2) _).2.2.2
    unfold bg1 buC buG
    split <;> exact hb1.2.2.2
  · exact a9.trans (by rw [hgr]; rfl)
theorem G_turnDial {σ : Sp} {g : Gr} {B : Nat} (h : GR σ g) (hk : KK σ B) (x1 x2 : Int32) : ∃ R, F_X1_turnDial x1 x2 g = some R ∧ R.1 = a_dial x1 x2 (v_b0 σ) (v_b1 σ) ∧ (0 ≤ R.1 → GR (o_dial (nx x1) (nx x2) σ) R.2) := by
  obtain ⟨hlo, hb0, hb1, hch, hba, hK, hmk, hst, hse, hfi, hgr, hbr, hpu, hnr⟩ := h
  obtain ⟨k1, k2, k3, k4, k5, k6, k7, k8, k9, k10, k11, k12, k13, k14⟩ := hk
  obtain ⟨R, h1, h2, h3⟩ := p_turnDial k11 k12 x1 x2
  rw [F_X1_turnDial, hb0.1, hb1.1, h1]
  simp only [Option.bind_some]
  refine ⟨_, rfl, h2, fun q => ?_⟩
  obtain ⟨e1, e2, e3, e4, e5⟩ := b2_no (by decide) (adial_ok (h2 ▸ q)).1
  obtain ⟨a1, a2⟩ := h3 q (nx x1) (nx x2) e1 e4 e5 (by omega)
  refine ⟨hlo, ⟨?_, ?_, ?_, ?_⟩, ⟨?_, ?_, ?_, ?_⟩, hch, hba, hK, hmk, hst, hse, hfi, hgr, hbr, hpu, hnr⟩
  · refine a1.trans (congrArg nI ?_)
    show _ = (if nx x1 = 0 then (nx x2, (v_b0 σ).2) else v_b0 σ).1
    split <;> rfl
  · refine hb0.2.1.trans (congrArg nI ?_)
    show _ = (if nx x1 = 0 then (nx x2, (v_b0 σ).2) else v_b0 σ).2.1
    split <;> rfl
  · refine hb0.2.2.1.trans ?_
    show _ = (if nx x1 = 0 then (nx x2, (v_b0 σ).2) else v_b0 σ).2.2.1
    split <;> rfl
  · refine hb0.2.2.2.trans ?_
    show _ = (if nx x1 = 0 then (nx x2, (v_b0 σ).2) else v_b0 σ).2.2.2
    split <;> rfl
  · refine a2.trans (congrArg nI ?_)
    show _ = (if nx x1 = 0 then v_b1 σ else (nx x2, (v_b1 σ).2)).1
    split <;> rfl
  · refine hb1.2.1.trans (congrArg nI ?_)
    show _ = (if nx x1 = 0 then v_b1 σ else (nx x2, (v_b1 σ).2)).2.1
    split <;> rfl
  · refine hb1.2.2.1.trans ?_
    show _ = (if nx x1 = 0 then v_b1 σ else (nx x2, (v_b1 σ).2)).2.2.1
    split <;> rfl
  · refine hb1.2.2.2.trans ?_
    show _ = (if nx x1 = 0 then v_b1 σ else (nx x2, (v_b1 σ).2)).2.2.2
    split <;> rfl
theorem G_letPass {σ : Sp} {g : Gr} {B : Nat} (h : GR σ g) (hk : KK σ B) (hB : B < 2 ^ 28) (x1 : Int32) : ∃ R, F_X1_letPass x1 g = some R ∧ R.1 = a_rest x1 (v_b0 σ).2.1 (v_b1 σ).2.1 (v_se σ) ∧ (0 ≤ R.1 → GR (o_rest (nx x1) σ) R.2) := by
  obtain ⟨hlo, hb0, hb1, hch, hba, hK, hmk, hst, hse, hfi, hgr, hbr, hpu, hnr⟩ := h
  obtain ⟨k1, k2, k3, k4, k5, k6, k7, k8, k9, k10, k11, k12, k13, k14⟩ := hk
  obtain ⟨R, h1, h2, h3⟩ := p_letPass k11.2.2 k12.2.2 (show v_se σ < 2 ^ 28 by omega) x1
  rw [F_X1_letPass, hb0.2.1, hb1.2.1, hse, h1]
  simp only [Option.bind_some]
  refine ⟨_, rfl, h2, fun q => ?_⟩
  obtain ⟨e1, e2, e3, e4⟩ := arest_ok (h2 ▸ q)
  obtain ⟨a1, a2, a3⟩ := h3 q (nx x1) e3 (by omega)
  exact ⟨hlo, ⟨hb0.1, a1, hb0.2.2.1, hb0.2.2.2⟩, ⟨hb1.1, a2, hb1.2.2.1, hb1.2.2.2⟩, hch, hba, hK, hmk, hst, a3, hfi, hgr, hbr, hpu, hnr⟩
theorem G_makeShot {σ : Sp} {g : Gr} {B : Nat} (h : GR σ g) (hk : KK σ B) (hB : B < 2 ^ 28) : ∃ R, F_X1_makeShot g = some R ∧ R.1 = a_shot (v_st σ) (v_ba σ) ∧ (0 ≤ R.1 → tot (v_ba σ) ≠ 0 ∧ GR (o_shot σ) R.2) := by
  obtain ⟨hlo, hb0, hb1, hch, hba, hK, hmk, hst, hse, hfi, hgr, hbr, hpu, hnr⟩ := h
  obtain ⟨k1, k2, k3, k4, k5, k6, k7, k8, k9, k10, k11, k12, k13, k14⟩ := hk
  obtain ⟨R, h1, h2, h3⟩ := p_makeShot hba hb0 hb1 hK hst hse k8 k10 k11 k12 k13 (by omega) (g.2.2.2.2.2.2.2.2.2.2.2.2.2.2.2.2.2.2.2.2.2.2.1) (g.2.2.2.2.2.2.2.2.2.2.2.2.2.2.2.2.2.2.2.2.2.2.2.2.2.2.2.1) (g.2.2.2.2.2.2.2.2.2.2.2.2.2.2.2.2.2.2.2.2.2.2.2.2.2.2.2.2.2)
  rw [F_X1_makeShot, h1]
  simp only [Option.bind_some]
  refine ⟨_, rfl, h2, fun q => ?_⟩
  obtain ⟨a0, ⟨a1, a2, a3⟩, ⟨a4, a5, a6⟩, a7, a8, a9, a10, a11, a12, a13⟩ := h3 q
  rw [hmk] at a9
  refine ⟨a0, hlo, ⟨a1, a2, ?_, a3⟩, ⟨a4, a5, ?_, a6⟩, hch, ⟨a7, a8, fun k z => absurd z (Nat.not_lt_zero k)⟩, a9, ?_, hst, a11, hfi, hgr, ?_, hpu, ?_⟩
  · show _ = (bs0 (v_st σ) (timeS (v_st σ) (v_ba σ)) _ _ (v_b0 σ)).2.2.1
    unfold bs0 buC
    split
    · exact hb0.2.2.1.trans (buJ_g _ _ _).symm
    · exact hb0.2.2.1
  · show _ = (bs1 (v_st σ) (timeS (v_st σ) (v_ba σ)) _ _ (v_b1 σ)).2.2.1
    unfold bs1 buC
    split
    · exact hb1.2.2.1
    · exact hb1.2.2.1.trans (buJ_g _ _ _).symm
  · exact a10.trans (by rw [hmk]; rfl)
  · exact a12.trans (by rw [hbr]; rfl)
  · exact a13.trans (by rw [hnr]; rfl)
theorem G_emptyChute {σ : Sp} {g : Gr} (h : GR σ g) : ∃ R, F_X1_emptyChute g = some R ∧ R.1 = nI (tot (v_ch σ)) ∧ GR (o_purge σ) R.2 := by
  obtain ⟨hlo, hb0, hb1, hch, hba, hK, hmk, hst, hse, hfi, hgr, hbr, hpu, hnr⟩ := h
  rw [F_X1_emptyChute, hch.2.1, p_emptyChute]
  simp only [Option.bind_some]
  exact ⟨_, rfl, rfl, hlo, hb0, hb1, rowR_nil _ _, hba, hK, hmk, hst, hse, hfi, hgr, hbr, (by show _ + nI (tot (v_ch σ)) = _; rw [hpu]; rfl), hnr⟩
noncomputable def a_corr (x1 : Int32) (K : List Sh) (b0 b1 : Bu) (g : Nat) : Int32 := by
  classical
  exact if ¬ (x1 = 0 ∨ x1 = 1) then cIA else if K.length = 0 then cNP else nI (cor (bsel b0 b1 (nx x1)).1 (sk0 K 0).2.1 g)
theorem G_correct {σ : Sp} {g : Gr} {B : Nat} (h : GR σ g) (hk : KK σ B) (x1 : Int32) : ∃ R, F_X1_correctByLatest x1 g = some R ∧ R.1 = a_corr x1 (v_K σ) (v_b0 σ) (v_b1 σ) (v_st σ 0) ∧ (0 ≤ R.1 → nx x1 < 2 ∧ GR (o_corr (nx x1) σ) R.2) := by
  obtain ⟨hlo, hb0, hb1, hch, hba, hK, hmk, hst, hse, hfi, hgr, hbr, hpu, hnr⟩ := h
  obtain ⟨k1, k2, k3, k4, k5, k6, k7, k8, k9, k10, k11, k12, k13, k14⟩ := hk
  unfold a_corr
  rw [F_X1_correctByLatest, f_X1_correctByLatest]
  by_cases c1 : x1 = 0 ∨ x1 = 1
  · obtain ⟨b, hb, rfl⟩ := v01 c1
    rw [is01_t hb, if_neg (not_not_intro c1)]
    simp only [Option.bind_some]
    rw [if_neg (by decide)]
    have h12 := hK.2.1
    by_cases c2 : (v_K σ).length = 0
    · rw [if_neg (by rw [hK.1, fa_L]; exact nI_ge (by omega) (by decide)), if_pos c2]
      simp only [Option.bind_some]
      exact ⟨_, rfl, rfl, (by first | exact ngA | exact ngB | exact ngC | exact ngD)⟩
    · have hl := (hK.2.2.2 0 (by omega)).2.1
      have ht := hK.2.2.1 0 (by omega)
      have e0 : g.2.2.2.2.2.2.2.2.2.2.2.2.2.2.2.2.2.2.2.2.2.2.2.1 (0 : Int32).toNatClampNeg = nI (v_st σ 0) := hst 0 (by decide)
      have e1 : g.2.2.2.2.2.2.2.2.2.2.2.2.2.2.2.2.2.2.2.2.1 (1 : Int32).toNatClampNeg = nI (sk0 (v_K σ) 0).2.1 := hl
      rw [if_pos (by rw [hK.1, fa_L]; exact nI_le (by omega) (by omega)), if_neg c2, f_X6_latestTime, e0, e1, show nx (nI b) = b from v_cl (by omega)]
      obtain ⟨s1, s2, s3⟩ := k13
      obtain ⟨d0, d1, d2, d3⟩ := hb0
      obtain ⟨z0, z1, z2, z3⟩ := hb1
      rcases (show b = 0 ∨ b = 1 by omega) with rfl | rfl
      · rw [if_pos nI_0, d0]
        simp only [Option.bind_some]
        rw [p_correct k11.2.1 ht s1 s2]
        simp only [Option.bind_some]
        exact ⟨_, rfl, rfl, fun _ => ⟨by decide, hlo, ⟨rfl, d1, d2, (by rw [d3]; rfl)⟩, ⟨z0, z1, z2, z3⟩, hch, hba, hK, hmk, hst, hse, hfi, hgr, hbr, hpu, hnr⟩⟩
      · rw [if_neg (by decide), z0]
        simp only [Option.bind_some]
        rw [p_correct k12.2.1 ht s1 s2]
        simp only [Option.bind_some]
        exact ⟨_, rfl, rfl, fun _ => ⟨by decide, hlo, ⟨d0, d1, d2, d3⟩, ⟨rfl, z1, z2, (by rw [z3]; rfl)⟩, hch, hba, hK, hmk, hst, hse, hfi, hgr, hbr, hpu, hnr⟩⟩
  · rw [is01_f c1, if_pos c1]
    simp only [Option.bind_some]
    rw [if_pos trivial]
    simp only [Option.bind_some]
    exact ⟨_, rfl, rfl, (by first | exact ngA | exact ngB | exact ngC | exact ngD)⟩
end
section
/-! settings; copying; what is kept -/
def lsN (i : Nat) : Nat := if i = 0 then 100 else if i = 3 ∨ i = 4 then 30 else 0
def msN (i : Nat) : Nat := if i = 0 then 600 else if i = 1 then 200 else if i = 2 then 100 else if i = 5 then 1 else 300
theorem six {i : Nat} (h : i < 6) : i = 0 ∨ i = 1 ∨ i = 2 ∨ i = 3 ∨ i = 4 ∨ i = 5 := by omega
theorem tbL_N {i : Nat} (h : i < 6) : tbL i = nI (lsN i) := by
  rcases six h with rfl | rfl | rfl | rfl | rfl | rfl <;> rfl
theorem tbM_N {i : Nat} (h : i < 6) : tbM i = nI (msN i) := by
  rcases six h with rfl | rfl | rfl | rfl | rfl | rfl <;> rfl
theorem msN_le (i : Nat) : msN i ≤ 600 := by
  unfold msN
  repeat' split
  all_goals omega
theorem lsN_le (i : Nat) : lsN i ≤ 100 := by
  unfold lsN
  split
  · omega
  · split <;> omega
noncomputable def a_set (x1 x2 : Int32) (v : Nat → Nat) : Int32 := by
  classical
  exact if x1 < 0 ∨ 6 ≤ nx x1 then cIA else if x2 < nI (lsN (nx x1)) ∨ nI (msN (nx x1)) < x2 then cIA else nI (v (nx x1))
theorem aset_ok {x1 x2 : Int32} {v : Nat → Nat} (h : 0 ≤ a_set x1 x2 v) : nx x1 < 6 ∧ x1 = nI (nx x1) ∧ lsN (nx x1) ≤ nx x2 ∧ nx x2 ≤ msN (nx x1) ∧ x2 = nI (nx x2) ∧ a_set x1 x2 v = nI (v (nx x1)) := by
  unfold a_set at h ⊢
  by_cases c1 : x1 < 0 ∨ 6 ≤ nx x1
  · rw [if_pos c1] at h; exact absurd h (by decide)
  · rw [if_neg c1] at h ⊢
    by_cases c2 : x2 < nI (lsN (nx x1)) ∨ nI (msN (nx x1)) < x2
    · rw [if_pos c2] at h; exact absurd h (by decide)
    · rw [if_neg c2]
      obtain ⟨j, hj, rfl⟩ := nI_of (fun q => c1 (Or.inl q))
      have e1 : ¬ x2 < 0 := fun q => c2 (Or.inl (by
        have : (0 : Int32) ≤ nI (lsN (nx (nI j))) := nI_pos' (Nat.lt_of_le_of_lt (lsN_le _) (by decide))
        rw [Int32.lt_iff_toInt_lt] at q ⊢
        rw [Int32.le_iff_toInt_le] at this
        omega))
      obtain ⟨a, ha, rfl⟩ := nI_of e1
      have hm := msN_le (nx (nI j))
      have e2 : nx (nI j) = j := v_cl hj
      have e3 : nx (nI a) = a := v_cl ha
      rw [e2] at c1 c2 hm ⊢
      rw [e3]
      refine ⟨Nat.not_le.mp (fun q => c1 (Or.inr q)), rfl, ?_, ?_, rfl, rfl⟩
      · exact Nat.not_lt.mp (fun q => c2 (Or.inl (nI_lt q (Nat.lt_of_le_of_lt (lsN_le _) (by decide)))))
      · exact Nat.not_lt.mp (fun q => c2 (Or.inr (nI_lt q ha)))
theorem G_changeSetting {σ : Sp} {g : Gr} (h : GR σ g) (x1 x2 : Int32) : ∃ R, F_X1_changeSetting x1 x2 g = some R ∧ R.1 = a_set x1 x2 (v_st σ) ∧ (0 ≤ R.1 → GR (o_set (nx x1) (nx x2) σ) R.2) := by
  obtain ⟨hlo, hb0, hb1, hch, hba, hK, hmk, hst, hse, hfi, hgr, hbr, hpu, hnr⟩ := h
  rw [F_X1_changeSetting, f_X1_changeSetting]
  have hz := fun q => aset_ok (x1 := x1) (x2 := x2) (v := v_st σ) q
  revert hz
  unfold a_set
  by_cases c1 : x1 < 0 ∨ 6 ≤ nx x1
  · intro _
    rw [if_pos c1]
    have : (if x1 < 0 then some ((-1000001 : Int32), g.2.2.2.2.2.2.2.2.2.2.2.2.2.2.2.2.2.2.2.2.2.2.2.1) else (if (6 : Int32) ≤ x1 then some ((-1000001 : Int32), g.2.2.2.2.2.2.2.2.2.2.2.2.2.2.2.2.2.2.2.2.2.2.2.1) else none)) = some ((-1000001 : Int32), g.2.2.2.2.2.2.2.2.2.2.2.2.2.2.2.2.2.2.2.2.2.2.2.1) := by
      by_cases c2 : x1 < 0
      · rw [if_pos c2]
      · obtain ⟨j, hj, rfl⟩ := nI_of c2
        rw [if_neg c2, if_pos]
        rcases c1 with c1 | c1
        · exact absurd c1 c2
        · rw [show nx (nI j) = j from v_cl hj] at c1
          rw [fa_L]
          exact nI_le c1 hj
    by_cases c2 : x1 < 0
    · rw [if_pos c2]
      simp only [Option.bind_some]
      exact ⟨_, rfl, rfl, (by first | exact ngA | exact ngB | exact ngC | exact ngD)⟩
    · rw [if_neg c2] at this ⊢
      by_cases c3 : (6 : Int32) ≤ x1
      · rw [if_pos c3]
        simp only [Option.bind_some]
        exact ⟨_, rfl, rfl, (by first | exact ngA | exact ngB | exact ngC | exact ngD)⟩
      · rw [if_neg c3] at this
        cases this
  · rw [if_neg c1]
    intro hz
    obtain ⟨j, hj, rfl⟩ := nI_of (fun q => c1 (Or.inl q))
    have ej : nx (nI j) = j := v_cl hj
    rw [ej] at c1 hz ⊢
    have hj6 : j < 6 := Nat.not_le.mp (fun q => c1 (Or.inr q))
    have hg := nI_in (c := j) (N := 6) hj6 (by decide)
    rw [if_neg (nI_pos hj), if_neg (by rw [fa_L]; exact nI_ge hj6 (by decide))]
    simp only [gd_t hg, lt_v]
    simp only [v_cl hj, tbL_N hj6, tbM_N hj6]
    by_cases c2 : x2 < nI (lsN j)
    · rw [if_pos c2, if_pos (Or.inl c2)]
      simp only [Option.bind_some]
      exact ⟨_, rfl, rfl, (by first | exact ngA | exact ngB | exact ngC | exact ngD)⟩
    · rw [if_neg c2]
      by_cases c3 : nI (msN j) < x2
      · rw [if_neg (Int32.not_le.mpr c3), if_pos (Or.inr c3)]
        simp only [Option.bind_some]
        exact ⟨_, rfl, rfl, (by first | exact ngA | exact ngB | exact ngC | exact ngD)⟩
      · rw [if_pos (Int32.not_lt.mp c3), if_neg (fun q => by rcases q with q | q; exact c2 q; exact c3 q)]
        simp only [Option.bind_some, lt_v]
        refine ⟨_, rfl, hst j hj6, fun q => ⟨hlo, hb0, hb1, hch, hba, hK, hmk, fun k hk => ?_, hse, hfi, hgr, hbr, hpu, hnr⟩⟩
        show upd _ j x2 k = nI (updN (v_st σ) j (nx x2) k)
        unfold updN
        by_cases e : k = j
        · subst e
          rw [pk_us, if_pos rfl]
          have hx : ¬ x2 < 0 := fun z => c2 (by
            have : (0 : Int32) ≤ nI (lsN k) := nI_pos' (Nat.lt_of_le_of_lt (lsN_le _) (by decide))
            rw [Int32.lt_iff_toInt_lt] at z ⊢
            rw [Int32.le_iff_toInt_le] at this
            omega)
          obtain ⟨a, ha, rfl⟩ := nI_of hx
          rw [show nx (nI a) = a from v_cl ha]
        · rw [pk_un e, if_neg e]
          exact hst k hk
theorem G_copyFrom {σ : Sp} {go : Gr} {B : Nat} (h : GR σ go) (hk : KK σ B) (g : Gr) : ∃ R, F_X1_copyFrom g go = some R ∧ GR σ R := by
  obtain ⟨hlo, hb0, hb1, hch, hba, hK, hmk, hst, hse, hfi, hgr, hbr, hpu, hnr⟩ := h
  obtain ⟨k1, k2, k3, k4, k5, k6, k7, k8, k9, k10, k11, k12, k13, k14⟩ := hk
  have l1 := len_tot k5
  have l2 := len_tot k8
  obtain ⟨R1, a1, b1⟩ := p_copyRow (N := 6) (A := g.1) (M := g.2.1) (n := g.2.2.1) (t := g.2.2.2.1) hlo k4 (by decide)
  obtain ⟨R2, a2, b2⟩ := p_copyRow (N := 106) (A := g.2.2.2.2.2.2.2.2.2.2.2.2.1) (M := g.2.2.2.2.2.2.2.2.2.2.2.2.2.1) (n := g.2.2.2.2.2.2.2.2.2.2.2.2.2.2.1) (t := g.2.2.2.2.2.2.2.2.2.2.2.2.2.2.2.1) hch (by omega) (by decide)
  obtain ⟨R3, a3, b3⟩ := p_copyRow (N := 400) (A := g.2.2.2.2.2.2.2.2.2.2.2.2.2.2.2.2.1) (M := g.2.2.2.2.2.2.2.2.2.2.2.2.2.2.2.2.2.1) (n := g.2.2.2.2.2.2.2.2.2.2.2.2.2.2.2.2.2.2.1) (t := g.2.2.2.2.2.2.2.2.2.2.2.2.2.2.2.2.2.2.2.1) hba (by omega) (by decide)
  obtain ⟨R4, a4, b4, b5⟩ := p_copyShots (f := g.2.2.2.2.2.2.2.2.2.2.2.2.2.2.2.2.2.2.2.2.1) hK (g.2.2.2.2.2.2.2.2.2.2.2.2.2.2.2.2.2.2.2.2.2.1) (g.2.2.2.2.2.2.2.2.2.2.2.2.2.2.2.2.2.2.2.2.2.2.1) (go.2.2.2.2.2.2.2.2.2.2.2.2.2.2.2.2.2.2.2.2.2.2.1)
  have hg : ¬ (0 : Int32) < 0 ∧ ¬ (0 : Int32) < 0 ∧ ¬ (6 : Int32) < 0 ∧ (0 : Int32).toNatClampNeg + (6 : Int32).toNatClampNeg ≤ 6 ∧ (0 : Int32).toNatClampNeg + (6 : Int32).toNatClampNeg ≤ 6 := by decide
  rw [F_X1_copyFrom, f_X1_copyFrom, f_X3_copyFrom, a1]
  simp only [Option.bind_some, f_X0_copyFrom]
  rw [a2]
  simp only [Option.bind_some]
  rw [a3]
  simp only [Option.bind_some]
  rw [a4]
  simp only [gd_t hg, lt_v]
  simp only [Option.bind_some]
  refine ⟨_, rfl, b1, hb0, hb1, b2, b3, b4, b5.trans hmk, fun k hk => ?_, hse, hfi, hgr, hbr, hpu, hnr⟩
  show va_cpy _ _ 0 0 6 k = _
  rw [pk_cpy_in (Nat.zero_le _) (by omega), Nat.zero_add, Nat.sub_zero]
  exact hst k hk
theorem G_time {σ : Sp} {g : Gr} {B : Nat} (h : GR σ g) (hk : KK σ B) : F_X1_timeOfBasket g = some (a_shot (v_st σ) (v_ba σ)) := by
  obtain ⟨hlo, hb0, hb1, hch, hba, hK, hmk, hst, hse, hfi, hgr, hbr, hpu, hnr⟩ := h
  obtain ⟨k1, k2, k3, k4, k5, k6, k7, k8, k9, k10, k11, k12, k13, k14⟩ := hk
  rw [F_X1_timeOfBasket, p_time hst k13 hba k8 k10]
  rfl
end
section
/-! what is kept by the changes -/
theorem mkK_nil : mkK [] := fun p hp => by cases hp
theorem okR_nil : okR [] := fun p hp => by cases hp
theorem mkK_app {L K : List (Nat × Nat)} (h : mkK L) (h2 : mkK K) : mkK (L ++ K) := fun q hq => by
  rcases List.mem_append.mp hq with hq | hq
  · exact h q hq
  · exact h2 q hq
theorem pour_ok {k a : Nat} {L : List (Nat × Nat)} (h : okR L) (hk : k < 2) (ha : 1 ≤ a) (hT : tot L + a ≤ 4000) : okR (pour k a L) := by
  unfold pour
  split
  · rename_i q
    rcases Classical.em (L = []) with rfl | hL
    · rw [ends_nil] at q; cases q
    · obtain ⟨K, x, rfl⟩ := snoc_of L hL
      rw [List.dropLast_concat, List.getLastD_concat]
      rw [tot_app] at hT
      simp only [tot] at hT
      refine okR_app (fun q hq => h q (List.mem_append_left _ hq)) (okR_cc ⟨?_, ?_, ?_⟩ okR_nil)
      · show 1 ≤ x.1 + a; omega
      · show x.1 + a ≤ 4000; omega
      · show k < 4096; omega
  · refine okR_app h (okR_cc ⟨ha, ?_, ?_⟩ okR_nil)
    · show a ≤ 4000; omega
    · show k < 4096; omega
theorem pour_mk {k a : Nat} {L : List (Nat × Nat)} (h : ∀ p ∈ L, p.2 < 2) (hk : k < 2) : ∀ p ∈ pour k a L, p.2 < 2 := by
  unfold pour
  split
  · intro p hp
    rcases List.mem_append.mp hp with hp | hp
    · exact h p (List.dropLast_subset L hp)
    · rw [List.mem_singleton] at hp
      subst hp
      exact hk
  · intro p hp
    rcases List.mem_append.mp hp with hp | hp
    · exact h p hp
    · rw [List.mem_singleton] at hp
      subst hp
      exact hk
theorem pour_len {k a : Nat} {L : List (Nat × Nat)} (h : L.length ≤ 6) (h2 : L.length < 6 ∨ ends k L = true) : (pour k a L).length ≤ 6 := by
  unfold pour
  split
  · rename_i q
    rcases Classical.em (L = []) with rfl | hL
    · rw [ends_nil] at q; cases q
    · obtain ⟨K, x, rfl⟩ := snoc_of L hL
      rw [List.dropLast_concat]
      rw [List.length_append] at h ⊢
      exact h
  · rename_i q
    rw [List.length_append]
    show L.length + 1 ≤ 6
    rcases h2 with z | z
    · omega
    · exact absurd z q
theorem KK_up {σ : Sp} {B C : Nat} (h : KK σ B) (hBC : B ≤ C) : KK σ C := by
  obtain ⟨k1, k2, k3, k4, k5, k6, k7, k8, k9, k10, k11, k12, k13, k14⟩ := h
  exact ⟨k1, k2, k3, k4, k5, k6, k7, k8, k9, k10, k11, k12, k13, Nat.le_trans k14 hBC⟩
theorem K_fill {σ : Sp} {B : Nat} {x1 x2 : Int32} (hk : KK σ B) (h : 0 ≤ a_fill x1 x2 (v_lo σ)) : KK (o_fill (nx x1) (nx x2) σ) B := by
  obtain ⟨k1, k2, k3, k4, k5, k6, k7, k8, k9, k10, k11, k12, k13, k14⟩ := hk
  obtain ⟨c1, c2, -⟩ := afill_ok h
  obtain ⟨e1, e2, e3, e4, e5⟩ := b2_no (by decide) c1
  have c3 : tot (v_lo σ) + nx x2 ≤ 4000 := Nat.not_lt.mp (fun q => c2 (Or.inl q))
  have c4 : (v_lo σ).length < 6 ∨ ends (nx x1) (v_lo σ) = true := by
    rcases Nat.lt_or_ge (v_lo σ).length 6 with q | q
    · exact Or.inl q
    · refine Or.inr ?_
      cases z : ends (nx x1) (v_lo σ) with
      | true => rfl
      | false => exact absurd (Or.inr ⟨by omega, z⟩) c2
  exact ⟨pour_ok k1 e1 e2 c3, pour_mk k2 e1, (by show tot (pour _ _ _) ≤ _; rw [pour_tot]; exact c3), pour_len k4 c4, k5, k6, k7, k8, k9, k10, k11, k12, k13, k14⟩
theorem tk_mk {L : List (Nat × Nat)} (l : Nat) (h : mkK L) : mkK (tk l L).1 ∧ mkK (tk l L).2 := tk_mem (P := fun m => 40 ≤ m ∧ m < 2404) l h
theorem bsel_K {b0 b1 : Bu} (b : Nat) (h0 : buK b0) (h1 : buK b1) : buK (bsel b0 b1 b) := by
  unfold bsel
  split
  · exact h0
  · exact h1
theorem buC_K {b : Bu} (n : Nat) (h : buK b) : buK (buC b n) := ⟨h.1, h.2.1, Nat.le_trans (cl_le n b.2.1) h.2.2⟩
theorem buG_K {b : Bu} (a : Nat) (h : buK b) : buK (buG b a) := ⟨h.1, h.2.1, buG_w b a h.2.2⟩
theorem buX_K {b : Bu} (t g : Nat) (h : buK b) : buK (buX b t g) := ⟨(by show 1 ≤ max 1 _; omega), (by show max 1 (min 60 _) ≤ 60; omega), h.2.2⟩
theorem buJ_K {b : Bu} (v : Nat → Nat) (t : Nat) (h : buK b) : buK (buJ v t b) := by
  unfold buJ
  split
  · exact h
  · split
    · exact buX_K _ _ h
    · exact h
theorem K_grind {σ : Sp} {B : Nat} {x1 x2 : Int32} (hk : KK σ B) (h : 0 ≤ a_grind x1 x2 (v_lo σ) (v_ch σ) (v_ba σ) (v_st σ 2)) : KK (o_grind (nx x1) (nx x2) σ) (B + 3000) := by
  obtain ⟨k1, k2, k3, k4, k5, k6, k7, k8, k9, k10, k11, k12, k13, k14⟩ := hk
  obtain ⟨c1, c2, c3, -⟩ := agrind_ok h
  obtain ⟨e1, e2, e3, e4, e5⟩ := b2_no (by decide) c1
  have hd := (bsel_K (nx x1) k11 k12).2.1
  have o1 := g_in_ok (w := (bsel (v_b0 σ) (v_b1 σ) (nx x1)).2.1) (a := nx x2) k1 k2 k5 hd e1
  have o2 := g_in_mk (w := (bsel (v_b0 σ) (v_b1 σ) (nx x1)).2.1) (a := nx x2) k2 k6 hd e1
  have t1 := g_in_tot (ch := v_ch σ) (d := (bsel (v_b0 σ) (v_b1 σ) (nx x1)).1) (w := (bsel (v_b0 σ) (v_b1 σ) (nx x1)).2.1) (b := nx x1) c2
  have t2 := tk_tot (g_in (v_lo σ) (v_ch σ) (bsel (v_b0 σ) (v_b1 σ) (nx x1)).1 (bsel (v_b0 σ) (v_b1 σ) (nx x1)).2.1 (nx x1) (nx x2)) (g_out (v_ch σ) (nx x2) (v_st σ 2))
  have t3 := tk_tot (v_lo σ) (nx x2)
  have hc := k13.2.2.2.1
  have hg : g_out (v_ch σ) (nx x2) (v_st σ 2) = tot (v_ch σ) + nx x2 - v_st σ 2 := rfl
  refine ⟨(tk_ok _ k1).2, (tk_mem (P := fun m => m < 2) _ k2).2, ?_, Nat.le_trans (tk_len _ _).2 k4, (tk_ok _ o1).2, (tk_mk _ o2).2, ?_, okR_app k8 (tk_ok _ o1).1, mkK_app k9 (tk_mk _ o2).1, ?_, ?_, ?_, k13, ?_⟩
  · show tot (tk _ _).2 ≤ 4000
    rw [t3.2]; omega
  · show tot (tk _ _).2 ≤ 100
    rw [t2.2, t1]; omega
  · show tot (_ ++ (tk _ _).1) ≤ 400
    rw [tot_app, t2.1, t1]; omega
  · show buK (bg0 _ _ _ _)
    unfold bg0
    split
    · exact buC_K _ (buG_K _ k11)
    · exact buC_K _ k11
  · show buK (bg1 _ _ _ _)
    unfold bg1
    split
    · exact buC_K _ k12
    · exact buC_K _ (buG_K _ k12)
  · show v_se σ + (nx x2 + 9) / 10 ≤ B + 3000
    omega
theorem K_dial {σ : Sp} {B : Nat} {x1 x2 : Int32} (hk : KK σ B) (h : 0 ≤ a_dial x1 x2 (v_b0 σ) (v_b1 σ)) : KK (o_dial (nx x1) (nx x2) σ) B := by
  obtain ⟨k1, k2, k3, k4, k5, k6, k7, k8, k9, k10, k11, k12, k13, k14⟩ := hk
  obtain ⟨e1, e2, e3, e4, e5⟩ := b2_no (by decide) (adial_ok h).1
  refine ⟨k1, k2, k3, k4, k5, k6, k7, k8, k9, k10, ?_, ?_, k13, k14⟩
  · show buK (if nx x1 = 0 then (nx x2, (v_b0 σ).2) else v_b0 σ)
    split
    · exact ⟨e2, e3, k11.2.2⟩
    · exact k11
  · show buK (if nx x1 = 0 then v_b1 σ else (nx x2, (v_b1 σ).2))
    split
    · exact k12
    · exact ⟨e2, e3, k12.2.2⟩
theorem K_rest {σ : Sp} {B : Nat} {x1 : Int32} (hk : KK σ B) (h : 0 ≤ a_rest x1 (v_b0 σ).2.1 (v_b1 σ).2.1 (v_se σ)) : KK (o_rest (nx x1) σ) (B + 3000) := by
  obtain ⟨k1, k2, k3, k4, k5, k6, k7, k8, k9, k10, k11, k12, k13, k14⟩ := hk
  obtain ⟨e1, e2, e3, -⟩ := arest_ok h
  exact ⟨k1, k2, k3, k4, k5, k6, k7, k8, k9, k10, buC_K _ k11, buC_K _ k12, k13, (by show v_se σ + nx x1 ≤ B + 3000; omega)⟩
theorem K_shot {σ : Sp} {B : Nat} (hk : KK σ B) : KK (o_shot σ) (B + 3000) := by
  obtain ⟨k1, k2, k3, k4, k5, k6, k7, k8, k9, k10, k11, k12, k13, k14⟩ := hk
  have ht := timeS_le k13 (v_ba σ)
  refine ⟨k1, k2, k3, k4, k5, k6, k7, okR_nil, mkK_nil, Nat.zero_le _, ?_, ?_, k13, ?_⟩
  · show buK (bs0 _ _ _ _ _)
    unfold bs0
    split
    · exact buC_K _ (buJ_K _ _ k11)
    · exact buC_K _ k11
  · show buK (bs1 _ _ _ _ _)
    unfold bs1
    split
    · exact buC_K _ k12
    · exact buC_K _ (buJ_K _ _ k12)
  · show v_se σ + timeS (v_st σ) (v_ba σ) / 10 ≤ B + 3000
    omega
theorem K_purge {σ : Sp} {B : Nat} (hk : KK σ B) : KK (o_purge σ) B := by
  obtain ⟨k1, k2, k3, k4, k5, k6, k7, k8, k9, k10, k11, k12, k13, k14⟩ := hk
  exact ⟨k1, k2, k3, k4, okR_nil, mkK_nil, Nat.zero_le _, k8, k9, k10, k11, k12, k13, k14⟩
theorem K_corr {σ : Sp} {B : Nat} (b : Nat) (hk : KK σ B) : KK (o_corr b σ) B := by
  obtain ⟨k1, k2, k3, k4, k5, k6, k7, k8, k9, k10, k11, k12, k13, k14⟩ := hk
  refine ⟨k1, k2, k3, k4, k5, k6, k7, k8, k9, k10, ?_, ?_, k13, k14⟩
  · show buK (if b = 0 then _ else _)
    split
    · exact buX_K _ _ k11
    · exact k11
  · show buK (if b = 0 then _ else _)
    split
    · exact k12
    · exact buX_K _ _ k12
theorem K_set {σ : Sp} {B : Nat} {x1 x2 : Int32} (hk : KK σ B) (h : 0 ≤ a_set x1 x2 (v_st σ)) : KK (o_set (nx x1) (nx x2) σ) B := by
  obtain ⟨k1, k2, k3, k4, k5, k6, k7, k8, k9, k10, k11, k12, k13, k14⟩ := hk
  obtain ⟨e1, -, e3, e4, -⟩ := aset_ok h
  refine ⟨k1, k2, k3, k4, k5, k6, k7, k8, k9, k10, k11, k12, ?_, k14⟩
  show stK (updN (v_st σ) (nx x1) (nx x2))
  obtain ⟨s1, s2, s3, s4, s5, s6, s7, s8, s9⟩ := k13
  generalize nx x2 = a at e3 e4
  generalize nx x1 = i at e1 e3 e4
  unfold stK updN
  rcases six e1 with rfl | rfl | rfl | rfl | rfl | rfl <;> (unfold lsN at e3; unfold msN at e4; simp at e3 e4 ⊢; omega)
end
section
/-! the reference's cells -/
def enc (p : Nat × Nat) : Nat := p.1 + 512 * p.2
def rwM (b : Nat) (L : List (Nat × Nat)) (S : Nat → Int32) : Prop := S b = nI L.length ∧ ∀ k : Nat, k < L.length → S (b + 1 + k) = nI (enc (lk L k))
def loM (L : List (Nat × Nat)) (S : Nat → Int32) : Prop := S 21 = nI L.length ∧ ∀ k : Nat, k < L.length → S (22 + 2 * k) = nI (lk L k).2 ∧ S (22 + 2 * k + 1) = nI (lk L k).1
def buM (b : Nat) (x : Bu) (S : Nat → Int32) : Prop := S b = nI x.1 ∧ S (b + 1) = nI x.2.1 ∧ S (b + 2) = x.2.2.1 ∧ S (b + 3) = x.2.2.2
def stM (v : Nat → Nat) (S : Nat → Int32) : Prop := ∀ k : Nat, k < 6 → S (7 + k) = nI (v k)
def shG (f : Nat → Int32) (b : Nat) (x : Sh) : Prop := f b = x.1 ∧ f (b + 1) = nI x.2.1 ∧ f (b + 2) = x.2.2.1 ∧ f (b + 3) = x.2.2.2.1 ∧ f (b + 4) = x.2.2.2.2.1 ∧ f (b + 5) = x.2.2.2.2.2.1 ∧ f (b + 6) = x.2.2.2.2.2.2
def shM (K : List Sh) (S : Nat → Int32) : Prop := S 546 = nI K.length ∧ K.length ≤ 12 ∧ (∀ k : Nat, k < K.length → (sk0 K k).2.1 ≤ 30000) ∧ ∀ k : Nat, k < K.length → shG S (547 + 7 * k) (sk0 K k)
def MR (σ : Sp) (S : Nat → Int32) : Prop := loM (v_lo σ) S ∧ buM 13 (v_b0 σ) S ∧ buM 17 (v_b1 σ) S ∧ rwM 34 (v_ch σ) S ∧ rwM 145 (v_ba σ) S ∧ shM (v_K σ) S ∧ S 5 = v_mk σ ∧ stM (v_st σ) S ∧ S 0 = nI (v_se σ) ∧ S 1 = v_fi σ ∧ S 2 = v_gr σ ∧ S 3 = v_br σ ∧ S 4 = v_pu σ ∧ S 6 = v_nr σ
/-! what stands on other cells stays -/
theorem rwM.of {b n : Nat} {L : List (Nat × Nat)} {S S' : Nat → Int32} (h : rwM b L S) (hl : L.length ≤ n) (e : ∀ i, b ≤ i → i ≤ b + n → S' i = S i) : rwM b L S' := ⟨(e b (Nat.le_refl _) (by omega)).trans h.1, fun k hk => (e _ (by omega) (by omega)).trans (h.2 k hk)⟩
theorem loM.of {L : List (Nat × Nat)} {S S' : Nat → Int32} (h : loM L S) (hl : L.length ≤ 6) (e : ∀ i, 21 ≤ i → i ≤ 33 → S' i = S i) : loM L S' := ⟨(e 21 (by decide) (by decide)).trans h.1, fun k hk => ⟨(e _ (by omega) (by omega)).trans (h.2 k hk).1, (e _ (by omega) (by omega)).trans (h.2 k hk).2⟩⟩
theorem buM.of {b : Nat} {x : Bu} {S S' : Nat → Int32} (h : buM b x S) (e : ∀ i, b ≤ i → i ≤ b + 3 → S' i = S i) : buM b x S' := ⟨(e _ (by omega) (by omega)).trans h.1, (e _ (by omega) (by omega)).trans h.2.1, (e _ (by omega) (by omega)).trans h.2.2.1, (e _ (by omega) (by omega)).trans h.2.2.2⟩
theorem stM.of {v : Nat → Nat} {S S' : Nat → Int32} (h : stM v S) (e : ∀ i, 7 ≤ i → i ≤ 12 → S' i = S i) : stM v S' := fun k hk => (e _ (by omega) (by omega)).trans (h k hk)
theorem shG.of {f f' : Nat → Int32} {b : Nat} {x : Sh} (h : shG f b x) (e : ∀ i, b ≤ i → i ≤ b + 6 → f' i = f i) : shG f' b x := ⟨(e _ (by omega) (by omega)).trans h.1, (e _ (by omega) (by omega)).trans h.2.1, (e _ (by omega) (by omega)).trans h.2.2.1, (e _ (by omega) (by omega)).trans h.2.2.2.1, (e _ (by omega) (by omega)).trans h.2.2.2.2.1, (e _ (by omega) (by omega)).trans h.2.2.2.2.2.1, (e _ (by omega) (by omega)).trans h.2.2.2.2.2.2⟩
theorem shM.of {K : List Sh} {S S' : Nat → Int32} (h : shM K S) (e : ∀ i, 546 ≤ i → i ≤ 630 → S' i = S i) : shM K S' := ⟨(e _ (by omega) (by omega)).trans h.1, h.2.1, h.2.2.1, fun k hk => (h.2.2.2 k hk).of (fun i h1 h2 => e i (by omega) (by have := h.2.1; omega))⟩
theorem MR.of {σ : Sp} {B : Nat} {S S' : Nat → Int32} (h : MR σ S) (hk : KK σ B) (e : ∀ i, i ≤ 630 → S' i = S i) : MR σ S' := by
  obtain ⟨h1, h2, h3, h4, h5, h6, h7, h8, h9, h10, h11, h12, h13, h14⟩ := h
  obtain ⟨k1, k2, k3, k4, k5, k6, k7, k8, k9, k10, k11, k12, k13, k14⟩ := hk
  have l1 := len_tot k5
  have l2 := len_tot k8
  exact ⟨h1.of k4 (fun i _ q => e i (by omega)), h2.of (fun i _ q => e i (by omega)), h3.of (fun i _ q => e i (by omega)), h4.of (n := 100) (by omega) (fun i _ q => e i (by omega)), h5.of (n := 400) (by omega) (fun i _ q => e i (by omega)), h6.of (fun i _ q => e i (by omega)), (e _ (by decide)).trans h7, h8.of (fun i _ q => e i (by omega)), (e _ (by decide)).trans h9, (e _ (by decide)).trans h10, (e _ (by decide)).trans h11, (e _ (by decide)).trans h12, (e _ (by decide)).trans h13, (e _ (by decide)).trans h14⟩
/-! numbers -/
theorem cN {n : Nat} (h : n < 2 ^ 31) : (OfNat.ofNat n : Int32).toNatClampNeg = n := nI_clamp h
theorem r_in (x a b : Int32) : f_X8_in x a b = some (if x < a ∨ b < x then 0 else 1) := by
  rw [f_X8_in]
  by_cases h1 : x < a
  · rw [if_pos h1, if_pos (Or.inl h1)]
  · rw [if_neg h1]
    by_cases h2 : b < x
    · rw [if_pos h2, if_pos (Or.inr h2)]
    · rw [if_neg h2, if_neg (fun q => by rcases q with q | q; exact h1 q; exact h2 q)]
theorem in01 {x : Int32} : (x < 0 ∨ 1 < x) ↔ ¬ (x = 0 ∨ x = 1) := by
  constructor
  · rintro h (rfl | rfl)
    · rcases h with h | h <;> exact absurd h (by decide)
    · rcases h with h | h <;> exact absurd h (by decide)
  · intro h
    refine Classical.byContradiction (fun q => h ?_)
    have h1 : ¬ x < 0 := fun z => q (Or.inl z)
    have h2 : ¬ 1 < x := fun z => q (Or.inr z)
    obtain ⟨j, hj, rfl⟩ := nI_of h1
    have : j ≤ 1 := Nat.not_lt.mp (fun z => h2 (nI_lt z hj))
    rcases (show j = 0 ∨ j = 1 by omega) with rfl | rfl
    · exact Or.inl rfl
    · exact Or.inr rfl
theorem r_isOne (x : Int32) : f_X8_isOne x = some (if x = 0 ∨ x = 1 then 1 else 0) := by
  rw [f_X8_isOne, r_in]
  simp only [Option.bind_some]
  by_cases h : x = 0 ∨ x = 1
  · rw [if_neg (fun q => in01.mp q h), if_pos h, gd_t (Or.inr rfl)]
  · rw [if_pos (in01.mpr h), if_neg h, gd_t (Or.inl rfl)]
theorem enc_lt {p : Nat × Nat} (h : p.1 < 512) (h2 : p.2 < 4096) : enc p < 2 ^ 30 := by unfold enc; omega
theorem r_amountOf {p : Nat × Nat} (h : p.1 < 512) (h2 : p.2 < 4096) : f_X8_amountOf (nI (enc p)) = some (nI p.1) := by
  have := enc_lt h h2
  rw [f_X8_amountOf, fa_lit 512, pk_rem (by omega) (by decide) (by decide)]
  unfold enc
  exact so_inj (nI_inj (by omega))
theorem r_kindOf {p : Nat × Nat} (h : p.1 < 512) (h2 : p.2 < 4096) : f_X8_kindOf (nI (enc p)) = some (nI (p.2 % 2)) := by
  have := enc_lt h h2
  rw [f_X8_kindOf, fa_lit 512, fa_lit 2, pk_div (by omega) (by decide) (by decide), pk_rem (by omega) (by decide) (by decide)]
  unfold enc
  exact so_inj (nI_inj (by omega))
theorem r_burrIn {p : Nat × Nat} (h : p.1 < 512) (h2 : p.2 < 4096) : f_X8_burrIn (nI (enc p)) = some (nI (p.2 / 2 % 2)) := by
  have := enc_lt h h2
  rw [f_X8_burrIn, fa_lit 1024, fa_lit 2, pk_div (by omega) (by decide) (by decide), pk_rem (by omega) (by decide) (by decide)]
  unfold enc
  exact so_inj (nI_inj (by omega))
theorem r_gapOf {p : Nat × Nat} (h : p.1 < 512) (h2 : p.2 < 4096) : f_X8_gapOf (nI (enc p)) = some (nI (p.2 / 4)) := by
  have := enc_lt h h2
  rw [f_X8_gapOf, fa_lit 2048, pk_div (by omega) (by decide) (by decide)]
  unfold enc
  exact so_inj (nI_inj (by omega))
theorem r_gapBy {d w : Nat} (hd : d < 2 ^ 20) (hw : w < 2 ^ 20) : f_X8_gapBy (nI d) (nI w) = some (nI (gp d w)) := by
  rw [f_X8_gapBy]
  unfold gp
  rw [fa_lit 10, fa_lit 5, pk_mul, pk_div (by omega) (by decide) (by decide), lt_v]
  by_cases h : w / 5 ≤ 10 * d
  · rw [pk_sub h]
    by_cases h2 : 10 ≤ 10 * d - w / 5
    · rw [if_pos (nI_le h2 (by omega))]
      exact so_inj (nI_inj (by omega))
    · rw [if_neg (nI_ge (by omega) (by omega))]
      exact so_inj (nI_inj (by omega))
  · have hn : nI (10 * d) - nI (w / 5) < 0 := pk_sneg (by omega) (by omega)
    rw [if_neg (fun q => ?_)]
    · exact so_inj (nI_inj (by omega))
    · rw [Int32.lt_iff_toInt_lt, Int32.toInt_zero] at hn
      rw [Int32.le_iff_toInt_le, nI_toInt (by decide)] at q
      omega
theorem r_fall {w : Nat} (h : w < 2 ^ 31) : f_X8_fall (nI w) = some (nI (fl w)) := by
  rw [f_X8_fall]
  unfold fl
  by_cases h0 : w = 0
  · subst h0; rfl
  · rw [if_neg (nI_ne0 (by omega) h), if_neg h0, fa_lit 16]
    by_cases h1 : w < 16
    · rw [if_neg (nI_ge h1 (by decide)), if_pos h1]; rfl
    · rw [if_pos (nI_le (by omega) h), if_neg h1, pk_div h (by decide) (by decide)]
/-- what a portion of the chute or of the basket is -/
def okP (L : List (Nat × Nat)) : Prop := ∀ p ∈ L, 1 ≤ p.1 ∧ p.1 < 512 ∧ p.2 < 4096
theorem okP_of {L : List (Nat × Nat)} (h : okR L) (ht : tot L < 512) : okP L := by
  induction L with
  | nil => exact fun p hp => by cases hp
  | cons q L ih =>
    obtain ⟨h1, h2⟩ := okR_c h
    simp only [tot] at ht
    intro p hp
    rcases List.mem_cons.mp hp with rfl | hp
    · exact ⟨h1.1, by omega, h1.2.2⟩
    · exact ih h2 (by omega) p hp
theorem r_amounts_L {b : Nat} {L : List (Nat × Nat)} {S : Nat → Int32} (h : rwM b L S) (hok : okP L) (hb : b + 1 + L.length ≤ 631) : ∀ (m i s fuel : Nat) (Lr : List (Nat × Nat)), Lr.length = m → i + m = L.length → (∀ k : Nat, k < m → lk Lr k = lk L (i + k)) → m < fuel → f_X8_amounts_L5 S (nI b) (nI (b + 1)) fuel (nI s) (nI i) = some (nI (s + tot Lr)) := by
  intro m
  induction m with
  | zero =>
    intro i s fuel Lr hL hi hk hf
    obtain ⟨fu, rfl⟩ : ∃ fu, fuel = fu + 1 := ⟨fuel - 1, by omega⟩
    have hL0 : Lr = [] := List.length_eq_zero_iff.mp hL
    subst hL0
    rw [f_X8_amounts_L5, gd_t (nI_in (by omega) (by decide)), v_cl (by omega), h.1, if_pos (nI_le (by omega) (by omega))]
    rfl
  | succ m ih =>
    intro i s fuel Lr hL hi hk hf
    obtain ⟨fu, rfl⟩ : ∃ fu, fuel = fu + 1 := ⟨fuel - 1, by omega⟩
    match Lr, hL with
    | p :: Lr, hL =>
      simp only [List.length_cons] at hL
      have h1 := hk 0 (by omega)
      rw [lk_0, Nat.add_zero] at h1
      have hp := hok (lk L i) (lk_m (by omega))
      have ih' := ih (i + 1) (s + p.1) fu Lr (by omega) (by omega) (fun k q => by
        have := hk (k + 1) (by omega)
        rw [lk_s] at this
        rw [this, show i + (k + 1) = i + 1 + k by omega]) (by omega)
      rw [f_X8_amounts_L5, gd_t (nI_in (by omega) (by decide)), v_cl (by omega), h.1, if_neg (nI_ge (by omega) (by omega)), nI_add, gd_t (nI_in (by omega) (by decide)), v_cl (by omega), h.2 i (by omega), r_amountOf hp.2.1 hp.2.2]
      simp only [Option.bind_some, lt_v]
      rw [← h1, nI_add, fa_lit 1, nI_add, ih']
      simp only [tot, Nat.add_assoc]
theorem r_amounts {b : Nat} {L : List (Nat × Nat)} {S : Nat → Int32} (h : rwM b L S) (hok : okP L) (hb : b + 1 + L.length ≤ 631) : f_X8_amounts (nI b) (nI (b + 1)) S = some (nI (tot L)) := by
  have := r_amounts_L h hok hb L.length 0 0 FU L rfl (by omega) (fun k _ => by rw [Nat.zero_add]) (by show _ < 20000; omega)
  rw [nI_0, Nat.zero_add] at this
  exact this
theorem r_hopper_L {L : List (Nat × Nat)} {S : Nat → Int32} (h : loM L S) (hl : L.length ≤ 6) : ∀ (m i s fuel : Nat) (Lr : List (Nat × Nat)), Lr.length = m → i + m = L.length → (∀ k : Nat, k < m → lk Lr k = lk L (i + k)) → m < fuel → f_X8_hopper_L4 S fuel (nI s) (nI i) = some (nI (s + tot Lr)) := by
  intro m
  induction m with
  | zero =>
    intro i s fuel Lr hL hi hk hf
    obtain ⟨fu, rfl⟩ : ∃ fu, fuel = fu + 1 := ⟨fuel - 1, by omega⟩
    have hL0 : Lr = [] := List.length_eq_zero_iff.mp hL
    subst hL0
    rw [f_X8_hopper_L4, cN (n := 21) (by decide), h.1, if_pos (nI_le (by omega) (by omega))]
    rfl
  | succ m ih =>
    intro i s fuel Lr hL hi hk hf
    obtain ⟨fu, rfl⟩ : ∃ fu, fuel = fu + 1 := ⟨fuel - 1, by omega⟩
    match Lr, hL with
    | p :: Lr, hL =>
      simp only [List.length_cons] at hL
      have h1 := hk 0 (by omega)
      rw [lk_0, Nat.add_zero] at h1
      have ih' := ih (i + 1) (s + p.1) fu Lr (by omega) (by omega) (fun k q => by
        have := hk (k + 1) (by omega)
        rw [lk_s] at this
        rw [this, show i + (k + 1) = i + 1 + k by omega]) (by omega)
      rw [f_X8_hopper_L4, cN (n := 21) (by decide), h.1, if_neg (nI_ge (by omega) (by omega)), fa_lit 22, fa_lit 2, fa_lit 1, pk_mul, nI_add, nI_add, gd_t (nI_in (by omega) (by decide)), v_cl (by omega), (h.2 i (by omega)).2]
      simp only [lt_v]
      rw [← h1, nI_add, nI_add, ih']
      simp only [tot, Nat.add_assoc]
theorem r_hopper {L : List (Nat × Nat)} {S : Nat → Int32} (h : loM L S) (hl : L.length ≤ 6) : f_X8_hopper S = some (nI (tot L)) := by
  have := r_hopper_L h hl L.length 0 0 FU L rfl (by omega) (fun k _ => by rw [Nat.zero_add]) (by show _ < 20000; omega)
  rw [nI_0, Nat.zero_add] at this
  exact this
theorem r_ofBurr {b w : Nat} {S : Nat → Int32} (hb : b < 2) (hw : w < 4) : f_X8_ofBurr (nI b) (nI w) S = some (S (13 + 4 * b + w)) := by
  rw [f_X8_ofBurr, fa_lit 13, fa_lit 4, pk_mul, nI_add, nI_add, gd_t (nI_in (by omega) (by decide)), v_cl (by omega)]
/-- both burrs at their cells -/
theorem bs_M {σ : Sp} {S : Nat → Int32} (h : MR σ S) {b : Nat} (hb : b < 2) : buM (13 + 4 * b) (bsel (v_b0 σ) (v_b1 σ) b) S := by
  rcases (show b = 0 ∨ b = 1 by omega) with rfl | rfl
  · exact h.2.1
  · exact h.2.2.1
theorem r_gap {x : Bu} {b : Nat} {S : Nat → Int32} (hb : b < 2) (h : buM (13 + 4 * b) x S) (hx : buK x) : f_X8_gap (nI b) S = some (nI (gp x.1 x.2.1)) := by
  obtain ⟨x1, x2, x3⟩ := hx
  rw [f_X8_gap, ← nI_0, r_ofBurr hb (by decide)]
  simp only [Option.bind_some]
  rw [fa_lit 1, r_ofBurr hb (by decide)]
  simp only [Option.bind_some]
  rw [Nat.add_zero, h.1, h.2.1, r_gapBy (by omega) (by omega)]
  rfl
end
section
/-! seconds pass in the reference -/
theorem tmz_s (t m : Nat) : tmz t (m + 1) = (if (t + 1) % 10 = 0 then 1 else 0) + tmz (t + 1) m := by
  unfold tmz
  split <;> omega
theorem tmz_0 (t : Nat) : tmz t 0 = 0 := by unfold tmz; omega
theorem r_pin {r4 : Int32 → Int32 → (Nat → Int32) → Option (Int32 × (Nat → Int32))} {y1 y3 : Int32} {fu s b t w : Nat} {S : Nat → Int32} (hb : b < 2) (h0 : S 0 = nI t) (ht : t < 2 ^ 30) (c : t % 10 = 0) (hw : S (13 + 4 * b + 1) = nI w) (hw2 : w < 2 ^ 30) : f_X8_passes_L22 r4 y1 y3 (fu + 1) (nI s) (nI b) S = f_X8_passes_L22 r4 y1 y3 fu (nI (s + fl w)) (nI (b + 1)) (upd S (13 + 4 * b + 1) (nI (w - fl w))) := by
  rw [f_X8_passes_L22, fa_lit 2, if_neg (nI_ge (by omega) (by omega)), cN (n := 0) (by decide), h0, fa_lit 10, pk_rem (by omega) (by decide) (by decide), c, if_pos nI_0, fa_lit 1, r_ofBurr hb (by decide), hw]
  simp only [Option.bind_some]
  rw [r_fall (by omega)]
  simp only [Option.bind_some, lt_v]
  rw [fa_lit 13, fa_lit 4, pk_mul, nI_add, nI_add, gd_t (nI_in (by omega) (by decide)), gd_t (nI_in (by omega) (by decide)), v_cl (by omega), hw, pk_sub (fl_le w), nI_add, nI_add]
theorem r_passes_L {n : Nat} (hn : n < 2 ^ 20) : ∀ (m k s t w0 w1 fuel : Nat) (S : Nat → Int32), k + m = n → m < fuel → S 0 = nI t → S 14 = nI w0 → S 18 = nI w1 → t + m < 2 ^ 30 → w0 ≤ 300 → w1 ≤ 300 →
    ∃ S', f_X8_passes_L4 (nI n) fuel (nI s) (nI k) S = some (nI (s + (w0 - cl (tmz t m) w0) + (w1 - cl (tmz t m) w1)), S') ∧ S' 0 = nI (t + m) ∧ S' 14 = nI (cl (tmz t m) w0) ∧ S' 18 = nI (cl (tmz t m) w1) ∧ ∀ i, i ≠ 0 → i ≠ 14 → i ≠ 18 → S' i = S i := by
  intro m
  induction m with
  | zero =>
    intro k s t w0 w1 fuel S hk hf h0 h14 h18 ht hw0 hw1
    obtain ⟨fu, rfl⟩ : ∃ fu, fuel = fu + 1 := ⟨fuel - 1, by omega⟩
    rw [f_X8_passes_L4, if_pos (nI_le (by omega) (by omega)), tmz_0]
    refine ⟨S, ?_, h0, h14, h18, fun i _ _ _ => rfl⟩
    show some (nI s, S) = some (nI (s + (w0 - w0) + (w1 - w1)), S)
    rw [Nat.sub_self, Nat.sub_self]
    rfl
  | succ m ih =>
    intro k s t w0 w1 fuel S hk hf h0 h14 h18 ht hw0 hw1
    obtain ⟨fu, rfl⟩ : ∃ fu, fuel = fu + 1 := ⟨fuel - 1, by omega⟩
    rw [f_X8_passes_L4, if_neg (nI_ge (by omega) (by omega)), cN (n := 0) (by decide), h0]
    simp only [lt_v]
    rw [nI_1]
    have l0 := fl_le w0
    have l1 := fl_le w1
    have hFU : FU = 19997 + 1 + 1 + 1 := rfl
    by_cases c : (t + 1) % 10 = 0
    · have e14 : upd S 0 (nI (t + 1)) (13 + 4 * 0 + 1) = nI w0 := (pk_un (by decide)).trans h14
      have e18 : upd (upd S 0 (nI (t + 1))) (13 + 4 * 0 + 1) (nI (w0 - fl w0)) (13 + 4 * 1 + 1) = nI w1 := ((pk_un (by decide)).trans (pk_un (by decide))).trans h18
      have e0 : upd (upd S 0 (nI (t + 1))) (13 + 4 * 0 + 1) (nI (w0 - fl w0)) 0 = nI (t + 1) := (pk_un (by decide)).trans pk_us
      obtain ⟨S', a1, a2, a3, a4, a5⟩ := ih (k + 1) (s + fl w0 + fl w1) (t + 1) (w0 - fl w0) (w1 - fl w1) fu (upd (upd (upd S 0 (nI (t + 1))) (13 + 4 * 0 + 1) (nI (w0 - fl w0))) (13 + 4 * 1 + 1) (nI (w1 - fl w1))) (by omega) (by omega) ((pk_un (by decide)).trans e0) ((pk_un (by decide)).trans pk_us) pk_us (by omega) (by omega) (by omega)
      have hz : tmz t (m + 1) = tmz (t + 1) m + 1 := by rw [tmz_s, if_pos c]; omega
      have c0 := cl_le (tmz (t + 1) m) (w0 - fl w0)
      have c1 := cl_le (tmz (t + 1) m) (w1 - fl w1)
      refine ⟨S', ?_, ?_, ?_, ?_, ?_⟩
      · rw [hFU, ← nI_0, r_pin (b := 0) (by decide) pk_us (by omega) c e14 (by omega), r_pin (b := 1) (by decide) e0 (by omega) c e18 (by omega), f_X8_passes_L22, if_pos (by rw [fa_L]; exact nI_le (by omega) (by omega)), f_X8_passes_J82, lt_v, nI_1, a1, hz]
        refine so_inj (Prod.ext (nI_inj ?_) rfl)
        show _ = s + (w0 - cl (tmz (t + 1) m) (w0 - fl w0)) + (w1 - cl (tmz (t + 1) m) (w1 - fl w1))
        omega
      · rw [a2]; exact nI_inj (by omega)
      · rw [a3, hz]; rfl
      · rw [a4, hz]; rfl
      · intro i i0 i1 i2
        exact (a5 i i0 i1 i2).trans ((pk_un i2).trans ((pk_un i1).trans (pk_un i0)))
    · obtain ⟨S', a1, a2, a3, a4, a5⟩ := ih (k + 1) s (t + 1) w0 w1 fu (upd S 0 (nI (t + 1))) (by omega) (by omega) pk_us ((pk_un (by decide)).trans h14) ((pk_un (by decide)).trans h18) (by omega) hw0 hw1
      have hz : tmz t (m + 1) = tmz (t + 1) m := by rw [tmz_s, if_neg c]; omega
      refine ⟨S', ?_, ?_, ?_, ?_, ?_⟩
      · rw [hFU, f_X8_passes_L22, if_neg (by decide), cN (n := 0) (by decide), pk_us, fa_lit 10, pk_rem (by omega) (by decide) (by decide), if_neg (nI_ne0 (by omega) (by omega)), f_X8_passes_J82, lt_v, nI_1, a1, hz]
      · rw [a2]; exact nI_inj (by omega)
      · rw [a3, hz]
      · rw [a4, hz]
      · intro i i0 i1 i2
        exact (a5 i i0 i1 i2).trans (pk_un i0)
theorem r_passes {n t w0 w1 : Nat} {S : Nat → Int32} (hn : n < 19999) (h0 : S 0 = nI t) (h14 : S 14 = nI w0) (h18 : S 18 = nI w1) (ht : t < 2 ^ 29) (hw0 : w0 ≤ 300) (hw1 : w1 ≤ 300) :
    ∃ S', f_X8_passes (nI n) S = some (nI (w0 + w1 - cl (tmz t n) w0 - cl (tmz t n) w1), S') ∧ S' 0 = nI (t + n) ∧ S' 14 = nI (cl (tmz t n) w0) ∧ S' 18 = nI (cl (tmz t n) w1) ∧ ∀ i, i ≠ 0 → i ≠ 14 → i ≠ 18 → S' i = S i := by
  obtain ⟨S', a1, a2⟩ := r_passes_L (n := n) (by omega) n 0 0 t w0 w1 FU S (by omega) (by show n < 20000; omega) h0 h14 h18 (by omega) hw0 hw1
  have c0 := cl_le (tmz t n) w0
  have c1 := cl_le (tmz t n) w1
  refine ⟨S', ?_, a2⟩
  rw [f_X8_passes, ← nI_0, a1]
  exact so_inj (Prod.ext (nI_inj (by show 0 + (w0 - _) + (w1 - _) = _; omega)) rfl)
/-! the past -/
def PR (hs : List Sp) (P : Nat → Int32) (pasts : Int32) : Prop := pasts = nI hs.length ∧ hs.length ≤ 4 ∧ ∀ (j : Nat) (σ : Sp), hs.reverse[j]? = some σ → MR σ (fun k => P (631 * j + k))
def KH (hs : List Sp) (B : Nat) : Prop := ∀ σ ∈ hs, KK σ B
theorem r_chL59 {S : Nat → Int32} {n : Nat} (hn : n < 4) : ∀ (m i fuel : Nat) (P : Nat → Int32), i + m = 631 → m < fuel → ∃ P', f_X8_changes_L59 S 0 fuel (nI i) P (nI n) = some (P', nI (n + 1)) ∧ (∀ k, i ≤ k → k < 631 → P' (631 * n + k) = S k) ∧ ∀ k, (k < 631 * n + i ∨ 631 * n + 631 ≤ k) → P' k = P k := by
  intro m
  induction m with
  | zero =>
    intro i fuel P hi hf
    obtain ⟨fu, rfl⟩ : ∃ fu, fuel = fu + 1 := ⟨fuel - 1, by omega⟩
    rw [f_X8_changes_L59, if_pos (by rw [fa_L]; exact nI_le (by omega) (by omega)), lt_v, nI_1]
    exact ⟨P, rfl, fun k h1 h2 => absurd h2 (by omega), fun k _ => rfl⟩
  | succ m ih =>
    intro i fuel P hi hf
    obtain ⟨fu, rfl⟩ : ∃ fu, fuel = fu + 1 := ⟨fuel - 1, by omega⟩
    obtain ⟨P', a1, a2, a3⟩ := ih (i + 1) fu (upd P (631 * n + i) (S i)) (by omega) (by omega)
    refine ⟨P', ?_, ?_, ?_⟩
    · rw [f_X8_changes_L59, if_neg (by rw [fa_L]; exact nI_ge (by omega) (by decide)), gd_t (nI_in (by omega) (by decide)), v_cl (by omega)]
      simp only [lt_v]
      rw [fa_lit 631, pk_mul, nI_add, gd_t (nI_in (by omega) (by decide)), v_cl (by omega), nI_1, a1]
    · intro k h1 h2
      by_cases e : k = i
      · subst e
        rw [a3 _ (Or.inl (by omega)), pk_us]
      · exact a2 k (by omega) h2
    · intro k hk
      rw [a3 k (by omega), pk_un (by omega)]
theorem r_chL18 {S : Nat → Int32} {pasts : Int32} : ∀ (m i fuel : Nat) (P : Nat → Int32), i + m = 1893 → m < fuel → ∃ P', f_X8_changes_L18 S 0 fuel (nI i) P pasts = f_X8_changes_J57 S 0 P' (pasts - 1) ∧ (∀ k, i ≤ k → k < 1893 → P' k = P (k + 631)) ∧ ∀ k, (k < i ∨ 1893 ≤ k) → P' k = P k := by
  intro m
  induction m with
  | zero =>
    intro i fuel P hi hf
    obtain ⟨fu, rfl⟩ : ∃ fu, fuel = fu + 1 := ⟨fuel - 1, by omega⟩
    rw [f_X8_changes_L18, if_pos (by rw [fa_L]; exact nI_le (by omega) (by omega)), lt_v]
    exact ⟨P, rfl, fun k h1 h2 => absurd h2 (by omega), fun k _ => rfl⟩
  | succ m ih =>
    intro i fuel P hi hf
    obtain ⟨fu, rfl⟩ : ∃ fu, fuel = fu + 1 := ⟨fuel - 1, by omega⟩
    obtain ⟨P', a1, a2, a3⟩ := ih (i + 1) fu (upd P i (P (i + 631))) (by omega) (by omega)
    refine ⟨P', ?_, ?_, ?_⟩
    · rw [f_X8_changes_L18, if_neg (by rw [fa_L]; exact nI_ge (by omega) (by decide)), fa_lit 631, nI_add, gd_t (nI_in (by omega) (by decide)), v_cl (by omega)]
      simp only [lt_v]
      rw [gd_t (nI_in (by omega) (by decide)), v_cl (by omega), nI_1, a1]
    · intro k h1 h2
      by_cases e : k = i
      · subst e
        rw [a3 _ (Or.inl (by omega)), pk_us]
      · rw [a2 k (by omega) h2, pk_un (by omega)]
    · intro k hk
      rw [a3 k (by omega), pk_un (by omega)]
theorem r_changes1 (S P : Nat → Int32) (pasts : Int32) : f_X8_changes S P pasts 1 = some (P, pasts) := by
  rw [f_X8_changes, if_neg (by decide)]
theorem r_changes {σ : Sp} {hs : List Sp} {B : Nat} {S P : Nat → Int32} {pasts : Int32} (h : PR hs P pasts) (hm : MR σ S) (hk : KK σ B) (hK : KH hs B) : ∃ P' pasts', f_X8_changes S P pasts 0 = some (P', pasts') ∧ PR ((σ :: hs).take 4) P' pasts' := by
  obtain ⟨rfl, h4, hj⟩ := h
  rw [f_X8_changes, if_pos rfl]
  by_cases c : hs.length = 4
  · obtain ⟨P1, a1, a2, a3⟩ := r_chL18 (S := S) (pasts := nI 4) 1893 0 FU P (by omega) (by show 1893 < 20000; omega)
    obtain ⟨P2, b1, b2, b3⟩ := r_chL59 (S := S) (n := 3) (by decide) 631 0 FU P1 (by omega) (by show 631 < 20000; omega)
    refine ⟨P2, nI 4, ?_, ?_⟩
    · rw [c, if_pos (show nI 4 = (4 : Int32) from rfl)]
      show f_X8_changes_L18 S 0 FU (nI 0) P (nI 4) = _
      rw [a1, f_X8_changes_J57]
      exact b1
    · match hs, c with
      | [s0, s1, s2, s3], _ =>
        refine ⟨rfl, (show 4 ≤ 4 from Nat.le_refl 4), ?_⟩
        intro j τ hτ
        have hj4 : j < 4 := by
          rcases Nat.lt_or_ge j 4 with q | q
          · exact q
          · rw [List.getElem?_eq_none (by exact q)] at hτ; cases hτ
        rcases (show j = 0 ∨ j = 1 ∨ j = 2 ∨ j = 3 by omega) with rfl | rfl | rfl | rfl
        · cases hτ
          refine (hj 1 s2 rfl).of (hK s2 (by simp)) (fun i hi => ?_)
          rw [b3 _ (Or.inl (by omega)), a2 _ (by omega) (by omega)]
          show _ = P (631 * 1 + i)
          exact congrArg P (by omega)
        · cases hτ
          refine (hj 2 s1 rfl).of (hK s1 (by simp)) (fun i hi => ?_)
          rw [b3 _ (Or.inl (by omega)), a2 _ (by omega) (by omega)]
          show _ = P (631 * 2 + i)
          exact congrArg P (by omega)
        · cases hτ
          refine (hj 3 s0 rfl).of (hK s0 (by simp)) (fun i hi => ?_)
          rw [b3 _ (Or.inl (by omega)), a2 _ (by omega) (by omega)]
          show _ = P (631 * 3 + i)
          exact congrArg P (by omega)
        · cases hτ
          exact hm.of hk (fun i hi => b2 i (by omega) (by omega))
  · obtain ⟨P2, b1, b2, b3⟩ := r_chL59 (S := S) (n := hs.length) (by omega) 631 0 FU P (by omega) (by show 631 < 20000; omega)
    refine ⟨P2, nI (hs.length + 1), ?_, ?_⟩
    · rw [if_neg (show ¬ nI hs.length = (4 : Int32) from fun q => c ((nI_eq (b := 4) (by omega) (by decide)).mp q)), f_X8_changes_J57]
      exact b1
    · rw [List.take_of_length_le (by show hs.length + 1 ≤ 4; omega)]
      refine ⟨rfl, by show hs.length + 1 ≤ 4; omega, ?_⟩
      intro j τ hτ
      rw [List.reverse_cons] at hτ
      rcases Nat.lt_or_ge j hs.length with q | q
      · rw [List.getElem?_append_left (by rw [List.length_reverse]; exact q)] at hτ
        have hm2 : τ ∈ hs := List.mem_reverse.mp (List.mem_of_getElem? hτ)
        refine (hj j τ hτ).of (hK τ hm2) (fun i hi => b3 _ (Or.inl ?_))
        have : 631 * (j + 1) ≤ 631 * hs.length := Nat.mul_le_mul (Nat.le_refl _) q
        omega
      · rw [List.getElem?_append_right (by rw [List.length_reverse]; exact q), List.length_reverse] at hτ
        have e : j - hs.length = 0 := by
          rcases Nat.eq_zero_or_pos (j - hs.length) with z | z
          · exact z
          · rw [List.getElem?_eq_none (by show 1 ≤ _; omega)] at hτ; cases hτ
        rw [e] at hτ
        cases hτ
        have ej : j = hs.length := by omega
        subst ej
        exact hm.of hk (fun i hi => b2 i (by omega) (by omega))
end
section
/-! the reference's hopper and chute -/
theorem c21 : (21 : Int32).toNatClampNeg = 21 := rfl
theorem c22 : (22 : Int32).toNatClampNeg = 22 := rfl
theorem c23 : (23 : Int32).toNatClampNeg = 23 := rfl
theorem c34 : (34 : Int32).toNatClampNeg = 34 := rfl
theorem c35 : (35 : Int32).toNatClampNeg = 35 := rfl
theorem c145 : (145 : Int32).toNatClampNeg = 145 := rfl
theorem c9 : (9 : Int32).toNatClampNeg = 9 := rfl
theorem r_cmL131 {r9 : Int32 → (Nat → Int32) → Option ((Nat → Int32))} {y1 y3 y4 : Int32} {n : Nat} (hn : n ≤ 5) : ∀ (m i fuel : Nat) (S : Nat → Int32), i + m = 2 * n → m < fuel → S 21 = nI n → ∃ S', f_X8_comes_L131 r9 y1 y3 y4 fuel (nI i) S = r9 y3 S' ∧ (∀ k, i ≤ k → k < 2 * n → S' (22 + k) = S (22 + k + 2)) ∧ ∀ k, (k < 22 + i ∨ 22 + 2 * n ≤ k) → S' k = S k := by
  intro m
  induction m with
  | zero =>
    intro i fuel S hi hf h21
    obtain ⟨fu, rfl⟩ : ∃ fu, fuel = fu + 1 := ⟨fuel - 1, by omega⟩
    rw [f_X8_comes_L131, c21, h21, fa_lit 2, pk_mul, if_pos (nI_le (by omega) (by omega)), f_X8_comes_J173]
    exact ⟨S, rfl, fun k h1 h2 => absurd h2 (by omega), fun k _ => rfl⟩
  | succ m ih =>
    intro i fuel S hi hf h21
    obtain ⟨fu, rfl⟩ : ∃ fu, fuel = fu + 1 := ⟨fuel - 1, by omega⟩
    obtain ⟨S', a1, a2, a3⟩ := ih (i + 1) fu (upd S (22 + i) (S (22 + i + 2))) (by omega) (by omega) ((pk_un (by omega)).trans h21)
    refine ⟨S', ?_, ?_, ?_⟩
    · rw [f_X8_comes_L131, c21, h21, fa_lit 2, pk_mul, if_neg (nI_ge (by omega) (by omega)), fa_lit 22, nI_add, nI_add, gd_t (nI_in (by omega) (by decide)), v_cl (by omega)]
      simp only [lt_v]
      rw [gd_t (nI_in (by omega) (by decide)), v_cl (by omega), nI_1, a1]
    · intro k h1 h2
      by_cases e : k = i
      · subst e
        rw [a3 _ (Or.inl (by omega)), pk_us]
      · rw [a2 k (by omega) h2, pk_un (by omega)]
    · intro k hk
      rw [a3 k (by omega), pk_un (by omega)]
theorem r_J35 {r9 : Int32 → (Nat → Int32) → Option ((Nat → Int32))} {b g l z : Nat} {p : Nat × Nat} {L ch : List (Nat × Nat)} {S : Nat → Int32} (hlo : loM (p :: L) S) (hch : rwM 34 ch S) (hb : b < 2) (hg : g ≤ 600) (hp : p.1 ≤ 4000) (hp2 : p.2 < 2) (hz0 : 1 ≤ z) (hz : z ≤ p.1) (hl : z ≤ l) (hl2 : l ≤ 400) (hlen : L.length ≤ 5) (hlen2 : ch.length < 110) :
    ∃ S', f_X8_comes_J35 r9 (nI b) (nI l) (nI g) (nI z) S = r9 (nI (l - z)) S' ∧ rwM 34 (ch ++ [(z, 4 * g + 2 * b + p.2)]) S' ∧ (z = p.1 → loM L S') ∧ (z < p.1 → loM ((p.1 - z, p.2) :: L) S') ∧ ∀ i, (i < 21 ∨ 145 ≤ i) → S' i = S i := by
  have e21 : S 21 = nI (L.length + 1) := hlo.1
  have e22 : S 22 = nI p.2 := (hlo.2 0 (Nat.succ_pos _)).1
  have e23 : S 23 = nI p.1 := (hlo.2 0 (Nat.succ_pos _)).2
  have e34 : S 34 = nI ch.length := hch.1
  have ev : nI z + (512 : Int32) * nI p.2 + (1024 : Int32) * nI b + (2048 : Int32) * nI g = nI (enc (z, 4 * g + 2 * b + p.2)) := by
    rw [fa_lit 512, fa_lit 1024, fa_lit 2048, pk_mul, pk_mul, pk_mul, nI_add, nI_add, nI_add]
    unfold enc
    exact nI_inj (by show _ = z + 512 * (4 * g + 2 * b + p.2); omega)
  have ei : (35 : Int32) + nI ch.length = nI (35 + ch.length) := nI_add 35 _
  have eg : ¬ (nI (35 + ch.length) < 0 ∨ 631 ≤ (nI (35 + ch.length)).toNatClampNeg) := nI_in (by omega) (by decide)
  have w34 : upd S (35 + ch.length) (nI (enc (z, 4 * g + 2 * b + p.2))) 34 = nI ch.length := (pk_un (by omega)).trans e34
  have w23 : upd (upd S (35 + ch.length) (nI (enc (z, 4 * g + 2 * b + p.2)))) 34 (nI (ch.length + 1)) 23 = nI p.1 := ((pk_un (by decide)).trans (pk_un (by omega))).trans e23
  generalize hT : upd (upd S (35 + ch.length) (nI (enc (z, 4 * g + 2 * b + p.2)))) 34 (nI (ch.length + 1)) = T at w23
  have tl : ∀ i, i ≠ 34 → i ≠ 35 + ch.length → T i = S i := fun i h1 h2 => by rw [← hT, pk_un h1, pk_un h2]
  have t34 : T 34 = nI (ch.length + 1) := by rw [← hT, pk_us]
  have tv : T (35 + ch.length) = nI (enc (z, 4 * g + 2 * b + p.2)) := by rw [← hT, pk_un (by omega), pk_us]
  have hrw : ∀ S' : Nat → Int32, (∀ i, 34 ≤ i → i ≤ 144 → S' i = T i) → rwM 34 (ch ++ [(z, 4 * g + 2 * b + p.2)]) S' := by
    intro S' hS'
    refine ⟨?_, fun k hk => ?_⟩
    · rw [hS' 34 (by decide) (by decide), t34, List.length_append]; rfl
    · rw [List.length_append, List.length_singleton] at hk
      rw [hS' _ (by omega) (by omega)]
      by_cases e : k = ch.length
      · subst e
        have := lk_r (L := ch) (K := [(z, 4 * g + 2 * b + p.2)]) (k := 0)
        rw [Nat.add_zero, lk_0] at this
        rw [this]
        exact tv
      · rw [lk_l (by omega), tl _ (by omega) (by omega)]
        exact hch.2 k (by omega)
  rw [f_X8_comes_J35]
  simp only [lt_v]
  rw [show S (22 : Int32).toNatClampNeg = nI p.2 from e22, ev, show S (34 : Int32).toNatClampNeg = nI ch.length from e34, ei, gd_t eg]
  simp only [c21, c22, c23, c34, v_cl (show 35 + ch.length < 2 ^ 31 by omega)]
  rw [w34, nI_1, hT, w23, pk_sub hz, pk_sub hl, pk_us]
  by_cases c : z = p.1
  · have u21 : upd (upd T 23 (nI (p.1 - z))) 21 (nI L.length) 21 = nI L.length := pk_us
    have z21 : upd T 23 (nI (p.1 - z)) 21 = nI (L.length + 1) := ((pk_un (by decide)).trans (tl 21 (by decide) (by omega))).trans e21
    obtain ⟨S', a1, a2, a3⟩ := r_cmL131 (r9 := r9) (y1 := nI b) (y3 := nI (l - z)) (y4 := nI g) hlen (2 * L.length) 0 FU _ (by omega) (by show _ < 20000; omega) u21
    refine ⟨S', ?_, hrw S' (fun i h1 h2 => ?_), fun _ => ⟨?_, fun k hk => ⟨?_, ?_⟩⟩, fun q => absurd q (by omega), fun i hi => ?_⟩
    · rw [if_pos (by rw [c, Nat.sub_self]; exact nI_0), z21, nI_pred]
      rw [← nI_0, a1]
    · rw [a3 i (Or.inr (by omega)), pk_un (by omega), pk_un (by omega)]
    · rw [a3 21 (Or.inl (by decide)), pk_us]
    · have h1 := (hlo.2 (k + 1) (by simp only [List.length_cons]; omega)).1
      rw [lk_s] at h1
      rw [a2 (2 * k) (by omega) (by omega), pk_un (by omega), pk_un (by omega), tl _ (by omega) (by omega), ← h1]
      congr 1
    · have h1 := (hlo.2 (k + 1) (by simp only [List.length_cons]; omega)).2
      rw [lk_s] at h1
      have h2 := a2 (2 * k + 1) (by omega) (by omega)
      rw [show 22 + 2 * k + 1 = 22 + (2 * k + 1) by omega, h2, pk_un (by omega), pk_un (by omega), tl _ (by omega) (by omega), ← h1]
      congr 1
    · rw [a3 i (by omega), pk_un (by omega), pk_un (by omega), tl _ (by omega) (by omega)]
  · refine ⟨upd T 23 (nI (p.1 - z)), ?_, hrw _ (fun i h1 h2 => pk_un (by omega)), fun q => absurd q c, fun _ => ⟨?_, fun k hk => ?_⟩, fun i hi => ?_⟩
    · rw [if_neg (nI_ne0 (by omega) (by omega)), f_X8_comes_J173]
    · rw [pk_un (by decide), tl 21 (by decide) (by omega), e21]; rfl
    · cases k with
      | zero =>
        rw [lk_0]
        refine ⟨?_, pk_us⟩
        rw [pk_un (by decide), tl _ (by decide) (by omega)]
        exact e22
      | succ k =>
        simp only [List.length_cons] at hk
        have h1 := hlo.2 (k + 1) (by simp only [List.length_cons]; omega)
        rw [lk_s] at h1 ⊢
        rw [pk_un (by omega), pk_un (by omega), tl _ (by omega) (by omega), tl _ (by omega) (by omega)]
        exact h1
    · rw [pk_un (by omega), tl _ (by omega) (by omega)]
theorem r_comes_L {b g : Nat} (hb : b < 2) (hg : g ≤ 600) : ∀ (L : List (Nat × Nat)) (l fuel : Nat) (ch : List (Nat × Nat)) (S : Nat → Int32), okR L → (∀ p ∈ L, p.2 < 2) → loM L S → rwM 34 ch S → l ≤ tot L → l ≤ 400 → L.length ≤ 6 → ch.length + L.length ≤ 110 → L.length < fuel →
    ∃ S', f_X8_comes_L9 (nI b) (nI g) fuel (nI l) S = some S' ∧ loM (tk l L).2 S' ∧ rwM 34 (ch ++ mk2 (fun m => 4 * g + 2 * b + m) (tk l L).1) S' ∧ ∀ i, (i < 21 ∨ 145 ≤ i) → S' i = S i := by
  intro L
  induction L with
  | nil =>
    intro l fuel ch S hok hk2 hlo hch hl hl2 hlen hlen2 hf
    obtain ⟨fu, rfl⟩ : ∃ fu, fuel = fu + 1 := ⟨fuel - 1, by omega⟩
    have : l = 0 := Nat.le_zero.mp hl
    subst this
    rw [f_X8_comes_L9, if_pos (by rw [nI_0]; exact Int32.le_refl 0)]
    refine ⟨S, rfl, hlo, ?_, fun i _ => rfl⟩
    rw [tk_0]
    show rwM 34 (ch ++ []) S
    rw [List.append_nil]
    exact hch
  | cons p L ih =>
    intro l fuel ch S hok hk2 hlo hch hl hl2 hlen hlen2 hf
    obtain ⟨fu, rfl⟩ : ∃ fu, fuel = fu + 1 := ⟨fuel - 1, by omega⟩
    simp only [List.length_cons] at hlen hlen2 hf
    by_cases h0 : l = 0
    · subst h0
      rw [f_X8_comes_L9, if_pos (by rw [nI_0]; exact Int32.le_refl 0)]
      refine ⟨S, rfl, ?_, ?_, fun i _ => rfl⟩
      · rw [tk_0]; exact hlo
      · rw [tk_0]
        show rwM 34 (ch ++ []) S
        rw [List.append_nil]
        exact hch
    · obtain ⟨hp, hok2⟩ := okR_c hok
      have e23 : S 23 = nI p.1 := (hlo.2 0 (Nat.succ_pos _)).2
      have hm := hk2 p List.mem_cons_self
      rw [f_X8_comes_L9, if_neg (nI_nle (by omega) (by omega)), c23, e23]
      by_cases h1 : l < p.1
      · obtain ⟨S', a1, a2, a3, a4, a5⟩ := r_J35 (r9 := f_X8_comes_L9 (nI b) (nI g) fu) hlo hch hb hg hp.2.1 hm (show 1 ≤ l by omega) (by omega) (Nat.le_refl l) hl2 (by omega) (by omega)
        refine ⟨S', ?_, ?_, ?_, a5⟩
        · rw [if_pos (nI_le (by omega) (by omega)), a1, Nat.sub_self]
          obtain ⟨fu2, rfl⟩ : ∃ fu2, fu = fu2 + 1 := ⟨fu - 1, by omega⟩
          rw [f_X8_comes_L9, if_pos (by rw [nI_0]; exact Int32.le_refl 0)]
        · rw [tk, if_neg h0, if_pos h1]
          exact a4 h1
        · rw [tk, if_neg h0, if_pos h1]
          exact a2
      · obtain ⟨S1, a1, a2, a3, a4, a5⟩ := r_J35 (r9 := f_X8_comes_L9 (nI b) (nI g) fu) (z := p.1) hlo hch hb hg hp.2.1 hm hp.1 (Nat.le_refl _) (by omega) hl2 (by omega) (by omega)
        obtain ⟨S', b1, b2, b3, b4⟩ := ih (l - p.1) fu (ch ++ [(p.1, 4 * g + 2 * b + p.2)]) S1 hok2 (fun q hq => hk2 q (List.mem_cons_of_mem _ hq)) (a3 rfl) a2 (by simp only [tot] at hl; omega) (by omega) (by omega) (by rw [List.length_append, List.length_singleton]; omega) (by omega)
        refine ⟨S', ?_, ?_, ?_, fun i hi => (b4 i hi).trans (a5 i hi)⟩
        · rw [← b1, ← a1]
          by_cases h2 : l = p.1
          · rw [if_pos (nI_le (by omega) (by omega)), h2]
          · rw [if_neg (nI_ge (by omega) (by omega))]
        · rw [tk, if_neg h0, if_neg h1]
          exact b2
        · rw [tk, if_neg h0, if_neg h1]
          rw [app1] at b3
          exact b3
end
section
/-! the reference's overflow: from the chute into the basket -/
theorem r_ovL125 {r17 : Int32 → (Nat → Int32) → Option ((Nat → Int32))} {y1 : Int32} {n : Nat} (hn : n ≤ 108) : ∀ (m i fuel : Nat) (S : Nat → Int32), i + m = n → m < fuel → S 34 = nI n → ∃ S', f_X8_overflows_L125 r17 y1 fuel (nI i) S = r17 y1 S' ∧ (∀ k, i ≤ k → k < n → S' (35 + k) = S (35 + k + 1)) ∧ ∀ k, (k < 35 + i ∨ 35 + n ≤ k) → S' k = S k := by
  intro m
  induction m with
  | zero =>
    intro i fuel S hi hf h34
    obtain ⟨fu, rfl⟩ : ∃ fu, fuel = fu + 1 := ⟨fuel - 1, by omega⟩
    rw [f_X8_overflows_L125, c34, h34, if_pos (nI_le (by omega) (by omega)), f_X8_overflows_J165]
    exact ⟨S, rfl, fun k h1 h2 => absurd h2 (by omega), fun k _ => rfl⟩
  | succ m ih =>
    intro i fuel S hi hf h34
    obtain ⟨fu, rfl⟩ : ∃ fu, fuel = fu + 1 := ⟨fuel - 1, by omega⟩
    obtain ⟨S', a1, a2, a3⟩ := ih (i + 1) fu (upd S (35 + i) (S (35 + i + 1))) (by omega) (by omega) ((pk_un (by omega)).trans h34)
    refine ⟨S', ?_, ?_, ?_⟩
    · rw [f_X8_overflows_L125, c34, h34, if_neg (nI_ge (by omega) (by omega)), fa_lit 35, nI_add, nI_1, gd_t (nI_in (by omega) (by decide)), v_cl (by omega)]
      simp only [lt_v]
      rw [gd_t (nI_in (by omega) (by decide)), v_cl (by omega), nI_1, a1]
    · intro k h1 h2
      by_cases e : k = i
      · subst e
        rw [a3 _ (Or.inl (by omega)), pk_us]
      · rw [a2 k (by omega) h2, pk_un (by omega)]
    · intro k hk
      rw [a3 k (by omega), pk_un (by omega)]
theorem r_J45 {r17 : Int32 → (Nat → Int32) → Option ((Nat → Int32))} {l z : Nat} {p : Nat × Nat} {L ba : List (Nat × Nat)} {S : Nat → Int32} (hch : rwM 34 (p :: L) S) (hba : rwM 145 ba S) (hp : p.1 < 512) (hp2 : p.2 < 4096) (hz0 : 1 ≤ z) (hz : z ≤ p.1) (hl : z ≤ l) (hl2 : l < 2 ^ 20) (hlen : L.length ≤ 108) (hlen2 : ba.length < 400) :
    ∃ S', f_X8_overflows_J45 r17 (nI l) (nI (enc p)) (nI z) S = r17 (nI (l - z)) S' ∧ rwM 145 (ba ++ [(z, p.2)]) S' ∧ (z = p.1 → rwM 34 L S') ∧ (z < p.1 → rwM 34 ((p.1 - z, p.2) :: L) S') ∧ ∀ i, (i < 34 ∨ 546 ≤ i) → S' i = S i := by
  have e34 : S 34 = nI (L.length + 1) := hch.1
  have e35 : S 35 = nI (enc p) := hch.2 0 (Nat.succ_pos _)
  have e145 : S 145 = nI ba.length := hba.1
  have hpe := enc_lt hp hp2
  have ev : nI (enc p) - nI p.1 + nI z = nI (enc (z, p.2)) := by
    rw [pk_sub (by unfold enc; omega), nI_add]
    exact nI_inj (by unfold enc; show _ = z + 512 * p.2; omega)
  have eg : ¬ (nI (146 + ba.length) < 0 ∨ 631 ≤ (nI (146 + ba.length)).toNatClampNeg) := nI_in (by omega) (by decide)
  have w145 : upd S (146 + ba.length) (nI (enc (z, p.2))) 145 = nI ba.length := (pk_un (by omega)).trans e145
  have w35 : upd (upd S (146 + ba.length) (nI (enc (z, p.2)))) 145 (nI (ba.length + 1)) 35 = nI (enc p) := ((pk_un (by decide)).trans (pk_un (by omega))).trans e35
  generalize hT : upd (upd S (146 + ba.length) (nI (enc (z, p.2)))) 145 (nI (ba.length + 1)) = T at w35
  have tl : ∀ i, i ≠ 145 → i ≠ 146 + ba.length → T i = S i := fun i h1 h2 => by rw [← hT, pk_un h1, pk_un h2]
  have t145 : T 145 = nI (ba.length + 1) := by rw [← hT, pk_us]
  have tv : T (146 + ba.length) = nI (enc (z, p.2)) := by rw [← hT, pk_un (by omega), pk_us]
  have hrw : ∀ S' : Nat → Int32, (∀ i, 145 ≤ i → i ≤ 545 → S' i = T i) → rwM 145 (ba ++ [(z, p.2)]) S' := by
    intro S' hS'
    refine ⟨?_, fun k hk => ?_⟩
    · rw [hS' 145 (by decide) (by decide), t145, List.length_append]; rfl
    · rw [List.length_append, List.length_singleton] at hk
      rw [hS' _ (by omega) (by omega)]
      by_cases e : k = ba.length
      · subst e
        have := lk_r (L := ba) (K := [(z, p.2)]) (k := 0)
        rw [Nat.add_zero, lk_0] at this
        rw [this]
        exact tv
      · rw [lk_l (by omega), tl _ (by omega) (by omega)]
        exact hba.2 k (by omega)
  have es : nI (enc p) - nI z = nI (enc (p.1 - z, p.2)) := by
    rw [pk_sub (by unfold enc; omega)]
    exact nI_inj (by unfold enc; show _ = p.1 - z + 512 * p.2; omega)
  rw [f_X8_overflows_J45, r_amountOf hp hp2]
  simp only [Option.bind_some, lt_v]
  rw [ev, show S (145 : Int32).toNatClampNeg = nI ba.length from e145, fa_lit 146, nI_add, gd_t eg]
  simp only [c34, c35, c145, v_cl (show 146 + ba.length < 2 ^ 31 by omega)]
  rw [w145, nI_1, hT, w35, es, pk_sub hl, pk_us, r_amountOf (p := (p.1 - z, p.2)) (by show p.1 - z < 512; omega) hp2]
  simp only [Option.bind_some]
  by_cases c : z = p.1
  · have u34 : upd (upd T 35 (nI (enc (p.1 - z, p.2)))) 34 (nI L.length) 34 = nI L.length := pk_us
    have z34 : upd T 35 (nI (enc (p.1 - z, p.2))) 34 = nI (L.length + 1) := ((pk_un (by decide)).trans (tl 34 (by decide) (by omega))).trans e34
    obtain ⟨S', a1, a2, a3⟩ := r_ovL125 (r17 := r17) (y1 := nI (l - z)) hlen L.length 0 FU _ (by omega) (by show _ < 20000; omega) u34
    refine ⟨S', ?_, hrw S' (fun i h1 h2 => ?_), fun _ => ⟨?_, fun k hk => ?_⟩, fun q => absurd q (by omega), fun i hi => ?_⟩
    · rw [if_pos (by show nI (p.1 - z) = 0; rw [c, Nat.sub_self]; exact nI_0), z34, nI_pred]
      rw [← nI_0, a1]
    · rw [a3 i (Or.inr (by omega)), pk_un (by omega), pk_un (by omega)]
    · rw [a3 34 (Or.inl (by decide)), pk_us]
    · have h1 := hch.2 (k + 1) (by simp only [List.length_cons]; omega)
      rw [lk_s] at h1
      rw [a2 k (by omega) hk, pk_un (by omega), pk_un (by omega), tl _ (by omega) (by omega), ← h1]
      congr 1
    · rw [a3 i (by omega), pk_un (by omega), pk_un (by omega), tl _ (by omega) (by omega)]
  · refine ⟨upd T 35 (nI (enc (p.1 - z, p.2))), ?_, hrw _ (fun i h1 h2 => pk_un (by omega)), fun q => absurd q c, fun _ => ⟨?_, fun k hk => ?_⟩, fun i hi => ?_⟩
    · rw [if_neg (nI_ne0 (by show 0 < p.1 - z; omega) (by show p.1 - z < _; omega)), f_X8_overflows_J165]
    · rw [pk_un (by decide), tl 34 (by decide) (by omega), e34]; rfl
    · cases k with
      | zero =>
        rw [lk_0]
        exact pk_us
      | succ k =>
        simp only [List.length_cons] at hk
        have h1 := hch.2 (k + 1) (by simp only [List.length_cons]; omega)
        rw [lk_s] at h1 ⊢
        rw [pk_un (by omega), tl _ (by omega) (by omega)]
        exact h1
    · rw [pk_un (by omega), tl _ (by omega) (by omega)]
theorem r_over_L : ∀ (L : List (Nat × Nat)) (l fuel : Nat) (ba : List (Nat × Nat)) (S : Nat → Int32), okP L → rwM 34 L S → rwM 145 ba S → l ≤ tot L → l < 2 ^ 20 → L.length ≤ 109 → ba.length + (tk l L).1.length ≤ 400 → L.length < fuel →
    ∃ S', f_X8_overflows_L17 fuel (nI l) S = some S' ∧ rwM 34 (tk l L).2 S' ∧ rwM 145 (ba ++ (tk l L).1) S' ∧ ∀ i, (i < 34 ∨ 546 ≤ i) → S' i = S i := by
  intro L
  induction L with
  | nil =>
    intro l fuel ba S hok hch hba hl hl2 hlen hlen2 hf
    obtain ⟨fu, rfl⟩ : ∃ fu, fuel = fu + 1 := ⟨fuel - 1, by omega⟩
    have : l = 0 := Nat.le_zero.mp hl
    subst this
    rw [f_X8_overflows_L17, if_pos (by rw [nI_0]; exact Int32.le_refl 0)]
    refine ⟨S, rfl, hch, ?_, fun i _ => rfl⟩
    rw [tk_0, List.append_nil]
    exact hba
  | cons p L ih =>
    intro l fuel ba S hok hch hba hl hl2 hlen hlen2 hf
    obtain ⟨fu, rfl⟩ : ∃ fu, fuel = fu + 1 := ⟨fuel - 1, by omega⟩
    simp only [List.length_cons] at hlen hf
    by_cases h0 : l = 0
    · subst h0
      rw [f_X8_overflows_L17, if_pos (by rw [nI_0]; exact Int32.le_refl 0)]
      refine ⟨S, rfl, ?_, ?_, fun i _ => rfl⟩
      · rw [tk_0]; exact hch
      · rw [tk_0, List.append_nil]
        exact hba
    · have hp := hok p List.mem_cons_self
      have e35 : S 35 = nI (enc p) := hch.2 0 (Nat.succ_pos _)
      rw [f_X8_overflows_L17, if_neg (nI_nle (by omega) (by omega)), c35, e35]
      simp only [lt_v]
      rw [r_amountOf hp.2.1 hp.2.2]
      simp only [Option.bind_some]
      by_cases h1 : l < p.1
      · rw [tk, if_neg h0, if_pos h1] at hlen2 ⊢
        simp only [List.length_cons, List.length_nil] at hlen2
        obtain ⟨S', a1, a2, a3, a4, a5⟩ := r_J45 (r17 := f_X8_overflows_L17 fu) hch hba hp.2.1 hp.2.2 (show 1 ≤ l by omega) (by omega) (Nat.le_refl l) hl2 (by omega) (by omega)
        refine ⟨S', ?_, a4 h1, a2, a5⟩
        rw [if_pos (nI_le (by omega) (by omega)), a1, Nat.sub_self]
        obtain ⟨fu2, rfl⟩ : ∃ fu2, fu = fu2 + 1 := ⟨fu - 1, by omega⟩
        rw [f_X8_overflows_L17, if_pos (by rw [nI_0]; exact Int32.le_refl 0)]
      · rw [tk, if_neg h0, if_neg h1] at hlen2 ⊢
        simp only [List.length_cons] at hlen2
        obtain ⟨S1, a1, a2, a3, a4, a5⟩ := r_J45 (r17 := f_X8_overflows_L17 fu) (z := p.1) hch hba hp.2.1 hp.2.2 hp.1 (Nat.le_refl _) (by omega) hl2 (by omega) (by omega)
        obtain ⟨S', b1, b2, b3, b4⟩ := ih (l - p.1) fu (ba ++ [(p.1, p.2)]) S1 (fun q hq => hok q (List.mem_cons_of_mem _ hq)) (a3 rfl) a2 (by simp only [tot] at hl; omega) (by omega) (by omega) (by rw [List.length_append, List.length_singleton]; omega) (by omega)
        refine ⟨S', ?_, b2, ?_, fun i hi => (b4 i hi).trans (a5 i hi)⟩
        · rw [← b1, ← a1]
          by_cases h2 : l = p.1
          · rw [if_pos (nI_le (by omega) (by omega)), h2]
          · rw [if_neg (nI_ge (by omega) (by omega))]
        · rw [app1] at b3
          exact b3
end
section
/-! the reference grinds -/
theorem r_couldGrind {σ : Sp} {S : Nat → Int32} {B : Nat} (h : MR σ S) (hk : KK σ B) (x1 x2 : Int32) : f_X8_couldGrind x1 x2 S = some (a_grind x1 x2 (v_lo σ) (v_ch σ) (v_ba σ) (v_st σ 2)) := by
  obtain ⟨m1, m2, m3, m4, m5, m6, m7, m8, m9, m10, m11, m12, m13, m14⟩ := h
  obtain ⟨k1, k2, k3, k4, k5, k6, k7, k8, k9, k10, k11, k12, k13, k14⟩ := hk
  have l1 := len_tot k5
  have l2 := len_tot k8
  unfold a_grind
  rw [f_X8_couldGrind, r_isOne]
  simp only [Option.bind_some]
  by_cases c1 : x1 = 0 ∨ x1 = 1
  · rw [if_pos c1, if_neg (by decide), r_in]
    simp only [Option.bind_some]
    by_cases c2 : x2 < 1 ∨ (400 : Int32) < x2
    · rw [if_pos c2, if_pos rfl, if_pos (show bad2 x1 x2 400 from Or.inr c2)]
    · rw [if_neg c2, if_neg (by decide), if_neg (show ¬ bad2 x1 x2 400 from fun q => by rcases q with q | q; exact q c1; exact c2 q)]
      obtain ⟨a, ha1, ha2, rfl⟩ := v_rng (hi := 400) (by decide) (fun q => c2 (Or.inl q)) (fun q => c2 (Or.inr q))
      rw [r_hopper m1 k4, v_cl (by omega)]
      simp only [Option.bind_some]
      by_cases c3 : tot (v_lo σ) < a
      · rw [if_neg (nI_ge c3 (by omega)), if_pos c3]
      · have e9 : S (9 : Int32).toNatClampNeg = nI (v_st σ 2) := m8 2 (by decide)
        have hc := k13.2.2.2.1
        have ec : f_X8_amounts (34 : Int32) (35 : Int32) S = some (nI (tot (v_ch σ))) := r_amounts (b := 34) m4 (okP_of k5 (by omega)) (by omega)
        have eb : f_X8_amounts (145 : Int32) (146 : Int32) S = some (nI (tot (v_ba σ))) := r_amounts (b := 145) m5 (okP_of k8 (by omega)) (by omega)
        rw [if_pos (nI_le (by omega) (by omega)), if_neg c3, ec]
        simp only [Option.bind_some]
        rw [e9, nI_add, lt_v]
        have hz : ∀ z : Nat, z ≤ 500 → f_X8_couldGrind_J60 S (nI z) = some (if 400 < tot (v_ba σ) + z then cLR else nI z) := fun z hz => by
          rw [f_X8_couldGrind_J60, eb]
          simp only [Option.bind_some]
          rw [nI_add, fa_lit 400]
          by_cases c4 : 400 < tot (v_ba σ) + z
          · rw [if_neg (nI_ge c4 (by omega)), if_pos c4]
          · rw [if_pos (nI_le (by omega) (by omega)), if_neg c4]
        by_cases c4 : v_st σ 2 ≤ tot (v_ch σ) + a
        · rw [pk_sub c4, if_pos (nI_pos' (by omega)), hz _ (by omega)]
          rfl
        · have hn := pk_sneg (a := tot (v_ch σ) + a) (b := v_st σ 2) (by omega) (by omega)
          have e0 : g_out (v_ch σ) a (v_st σ 2) = 0 := by unfold g_out; omega
          rw [if_neg (Int32.not_le.mpr hn), e0, ← nI_0, hz 0 (by decide)]
  · rw [if_neg c1, if_pos rfl, if_pos (Or.inl c1)]
theorem r_over {L ba : List (Nat × Nat)} {S : Nat → Int32} {v : Nat} (hch : rwM 34 L S) (hba : rwM 145 ba S) (hok : okR L) (hT : tot L ≤ 500) (hv : S 9 = nI v) (hv2 : v ≤ 100) (hlen : L.length ≤ 109) (hT2 : tot ba + (tot L - v) ≤ 400) (hb : okR ba) : ∃ S', f_X8_overflows S = some S' ∧ rwM 34 (tk (tot L - v) L).2 S' ∧ rwM 145 (ba ++ (tk (tot L - v) L).1) S' ∧ ∀ i, (i < 34 ∨ 546 ≤ i) → S' i = S i := by
  have e1 : f_X8_amounts (34 : Int32) (35 : Int32) S = some (nI (tot L)) := r_amounts (b := 34) hch (okP_of hok (by omega)) (by omega)
  have l1 := len_tot (tk_ok (tot L - v) hok).1
  have l2 := len_tot hb
  have t1 := (tk_tot L (tot L - v)).1
  rw [f_X8_overflows, e1]
  simp only [Option.bind_some]
  rw [c9, hv, lt_v]
  by_cases c : v ≤ tot L
  · rw [pk_sub c]
    exact r_over_L L (tot L - v) FU ba S (okP_of hok (by omega)) hch hba (by omega) (by omega) hlen (by omega) (by show _ < 20000; omega)
  · have hn := pk_sneg (a := tot L) (b := v) (by omega) (by omega)
    have e0 : tot L - v = 0 := by omega
    have hFU : FU = 19999 + 1 := rfl
    rw [hFU, f_X8_overflows_L17, if_pos (Int32.le_of_lt hn), e0, tk_0, List.append_nil]
    exact ⟨S, rfl, hch, hba, fun i _ => rfl⟩
theorem r_grinds {σ : Sp} {S : Nat → Int32} {B b a : Nat} (h : MR σ S) (hk : KK σ B) (hb : b < 2) (ha : 1 ≤ a) (ha2 : a ≤ 400) (hlo : a ≤ tot (v_lo σ)) (ho : tot (v_ba σ) + g_out (v_ch σ) a (v_st σ 2) ≤ 400) :
    ∃ S', f_X8_grinds (nI b) (nI a) S = some S' ∧ loM (tk a (v_lo σ)).2 S' ∧ rwM 34 (tk (g_out (v_ch σ) a (v_st σ 2)) (g_in (v_lo σ) (v_ch σ) (bsel (v_b0 σ) (v_b1 σ) b).1 (bsel (v_b0 σ) (v_b1 σ) b).2.1 b a)).2 S' ∧ rwM 145 (v_ba σ ++ (tk (g_out (v_ch σ) a (v_st σ 2)) (g_in (v_lo σ) (v_ch σ) (bsel (v_b0 σ) (v_b1 σ) b).1 (bsel (v_b0 σ) (v_b1 σ) b).2.1 b a)).1) S' ∧
      S' (13 + 4 * b + 1) = nI (buG (bsel (v_b0 σ) (v_b1 σ) b) a).2.1 ∧ S' (13 + 4 * b + 2) = (buG (bsel (v_b0 σ) (v_b1 σ) b) a).2.2.1 ∧ S' 2 = v_gr σ + nI a ∧ ∀ i, (i < 21 ∨ 546 ≤ i) → i ≠ 2 → i ≠ 13 + 4 * b + 1 → i ≠ 13 + 4 * b + 2 → S' i = S i := by
  have hbs := bs_M h hb
  obtain ⟨m1, m2, m3, m4, m5, m6, m7, m8, m9, m10, m11, m12, m13, m14⟩ := h
  obtain ⟨k1, k2, k3, k4, k5, k6, k7, k8, k9, k10, k11, k12, k13, k14⟩ := hk
  have hxb := bsel_K b k11 k12
  generalize hx : bsel (v_b0 σ) (v_b1 σ) b = x at hbs hxb ⊢
  obtain ⟨x1, x2, x3⟩ := id hxb
  have l1 := len_tot k5
  have hg := gp_le (d := x.1) (w := x.2.1) x2
  have hv : S 9 = nI (v_st σ 2) := m8 2 (by decide)
  obtain ⟨S1, a1, a2, a3, a4⟩ := r_comes_L (g := gp x.1 x.2.1) hb hg (v_lo σ) a FU (v_ch σ) S k1 k2 m1 m4 hlo ha2 k4 (by omega) (by show _ < 20000; omega)
  have e1 : S1 (13 + 4 * b + 1) = nI x.2.1 := (a4 _ (by omega)).trans hbs.2.1
  have e2 : S1 (13 + 4 * b + 2) = x.2.2.1 := (a4 _ (by omega)).trans hbs.2.2.1
  have e3 : S1 2 = v_gr σ := (a4 2 (by omega)).trans m11
  have q1 : ∀ (w : Nat), f_X8_grinds_J43 (nI b) (nI a) (nI w) (nI (13 + 4 * b + 1)) S1 = (f_X8_overflows (upd (upd (upd S1 (13 + 4 * b + 1) (nI w)) (13 + 4 * b + 2) (x.2.2.1 + nI a)) 2 (v_gr σ + nI a))).bind fun q14 => some q14 := fun w => by
    have ei : (13 : Int32) + (4 : Int32) * nI b + 2 = nI (13 + 4 * b + 2) := by rw [fa_lit 13, fa_lit 4, fa_lit 2, pk_mul, nI_add, nI_add]
    have u1 : upd S1 (13 + 4 * b + 1) (nI w) (13 + 4 * b + 2) = x.2.2.1 := (pk_un (by omega)).trans e2
    have u2 : upd (upd S1 (13 + 4 * b + 1) (nI w)) (13 + 4 * b + 2) (x.2.2.1 + nI a) 2 = v_gr σ := ((pk_un (by omega)).trans (pk_un (by omega))).trans e3
    rw [f_X8_grinds_J43, gd_t (nI_in (by omega) (by decide)), v_cl (by omega)]
    simp only [lt_v]
    rw [ei, gd_t (nI_in (by omega) (by decide)), gd_t (nI_in (by omega) (by decide)), v_cl (by omega), u1, cN (n := 2) (by decide), u2]
  have t1 := g_in_tot (ch := v_ch σ) (d := x.1) (w := x.2.1) (b := b) hlo
  have o1 := g_in_ok (lo := v_lo σ) (ch := v_ch σ) (d := x.1) (w := x.2.1) (b := b) (a := a) k1 k2 k5 x2 hb
  have n1 := g_in_len (lo := v_lo σ) (ch := v_ch σ) (d := x.1) (w := x.2.1) (b := b) (a := a)
  have hgo : g_out (v_ch σ) a (v_st σ 2) = tot (v_ch σ) + a - v_st σ 2 := rfl
  have c3 := k13.2.2.2.1
  generalize hT : upd (upd (upd S1 (13 + 4 * b + 1) (nI (min 300 (x.2.1 + a / 4)))) (13 + 4 * b + 2) (x.2.2.1 + nI a)) 2 (v_gr σ + nI a) = T
  have tT : ∀ i, i ≠ 2 → i ≠ 13 + 4 * b + 1 → i ≠ 13 + 4 * b + 2 → T i = S1 i := fun i i1 i2 i3 => by rw [← hT, pk_un i1, pk_un i3, pk_un i2]
  obtain ⟨S', b1, b2, b3, b4⟩ := r_over (L := g_in (v_lo σ) (v_ch σ) x.1 x.2.1 b a) (ba := v_ba σ) (S := T) (v := v_st σ 2)
    (rwM.of (n := 110) a3 (by show (g_in (v_lo σ) (v_ch σ) x.1 x.2.1 b a).length ≤ 110; omega) (fun i i1 i2 => tT i (by omega) (by omega) (by omega)))
    (rwM.of (n := 400) (rwM.of (n := 400) m5 (by have := len_tot k8; omega) (fun i i1 i2 => a4 i (by omega))) (by have := len_tot k8; omega) (fun i i1 i2 => tT i (by omega) (by omega) (by omega)))
    o1 (by omega) ((tT 9 (by decide) (by omega) (by omega)).trans ((a4 9 (by omega)).trans hv)) c3 (by omega) (by omega) k8
  rw [t1, ← hgo] at b2 b3
  refine ⟨S', ?_, loM.of a2 (Nat.le_trans (tk_len _ _).2 k4) (fun i i1 i2 => (b4 i (by omega)).trans (tT i (by omega) (by omega) (by omega))), b2, b3, ?_, ?_, ?_, fun i i0 i1 i2 i3 => ?_⟩
  · rw [f_X8_grinds, f_X8_comes, r_gap hb hbs hxb]
    simp only [Option.bind_some]
    rw [a1]
    simp only [Option.bind_some]
    have ei : (13 : Int32) + (4 : Int32) * nI b + 1 = nI (13 + 4 * b + 1) := by rw [fa_lit 13, fa_lit 4, fa_lit 1, pk_mul, nI_add, nI_add]
    rw [ei, fa_lit 1, r_ofBurr hb (by decide)]
    simp only [Option.bind_some]
    rw [e1, fa_lit 4, pk_div (by omega) (by decide) (by decide), nI_add, lt_v, fa_lit 300]
    by_cases c : x.2.1 + a / 4 ≤ 300
    · rw [if_pos (nI_le c (by decide)), q1, show x.2.1 + a / 4 = min 300 (x.2.1 + a / 4) by omega, hT, b1]
      rfl
    · rw [if_neg (nI_ge (by omega) (by omega)), q1, show (300 : Nat) = min 300 (x.2.1 + a / 4) by omega, hT, b1]
      rfl
  · rw [b4 _ (by omega), ← hT, pk_un (by omega), pk_un (by omega), pk_us]
    rfl
  · rw [b4 _ (by omega), ← hT, pk_un (by omega), pk_us]
    rfl
  · rw [b4 _ (by omega), ← hT, pk_us]
  · rw [b4 i (by omega), tT i i1 i2 i3, a4 i (by omega)]
/-- the answer of a change of the reference, and what it leaves: nothing changed, or the new state and a longer past (in a text: the past as it was) -/
def RC (σ σ' : Sp) (hs : List Sp) (a : Int32) (S P : Nat → Int32) (pasts runs : Int32) (R : Int32 × (Nat → Int32) × (Nat → Int32) × Int32) : Prop := R.1 = a ∧ (a < 0 → R.2 = (S, P, pasts)) ∧ (0 ≤ a → MR σ' R.2.1 ∧ (runs = 1 → R.2.2 = (P, pasts)) ∧ (runs = 0 → PR ((σ :: hs).take 4) R.2.2.1 R.2.2.2))
theorem r_chg {σ : Sp} {hs : List Sp} {B : Nat} {S P : Nat → Int32} {pasts runs : Int32} (h : PR hs P pasts) (hm : MR σ S) (hk : KK σ B) (hK : KH hs B) (hr : runs = 0 ∨ runs = 1) : ∃ P' pasts', f_X8_changes S P pasts runs = some (P', pasts') ∧ (runs = 1 → (P', pasts') = (P, pasts)) ∧ (runs = 0 → PR ((σ :: hs).take 4) P' pasts') := by
  rcases hr with rfl | rfl
  · obtain ⟨P', pasts', a, b⟩ := r_changes h hm hk hK
    exact ⟨P', pasts', a, fun q => absurd q (by decide), fun _ => b⟩
  · exact ⟨P, pasts, r_changes1 S P pasts, fun _ => rfl, fun q => absurd q (by decide)⟩
theorem neg_no {a : Int32} (h : a < 0) : ¬ 0 ≤ a := Int32.not_le.mpr h
theorem nI_nn {a : Nat} (h : a < 2 ^ 31) : ¬ nI a < 0 := nI_pos h
end
section
/-! the reference's changes: dial, rest, purge, set, correct -/
theorem ltA : cIA < 0 := by decide
theorem ltB : cNP < 0 := by decide
theorem ltC : cLR < 0 := by decide
theorem RC_neg {σ σ' : Sp} {hs : List Sp} {a : Int32} {S P : Nat → Int32} {pasts runs : Int32} (ha : a < 0) : RC σ σ' hs a S P pasts runs (a, S, P, pasts) := ⟨rfl, fun _ => rfl, fun h => absurd h (neg_no ha)⟩
theorem RC_pos {σ σ' : Sp} {hs : List Sp} {a : Int32} {S S' P P' : Nat → Int32} {pasts pasts' runs : Int32} (ha : ¬ a < 0) (hm : MR σ' S') (h1 : runs = 1 → (P', pasts') = (P, pasts)) (h0 : runs = 0 → PR ((σ :: hs).take 4) P' pasts') : RC σ σ' hs a S P pasts runs (a, S', P', pasts') := ⟨rfl, fun h => absurd h ha, fun _ => ⟨hm, h1, h0⟩⟩
theorem r_ofB0 {b : Nat} {S : Nat → Int32} (hb : b < 2) : f_X8_ofBurr (nI b) (0 : Int32) S = some (S (13 + 4 * b)) := r_ofBurr (w := 0) hb (by decide)
theorem r_ofB1 {b : Nat} {S : Nat → Int32} (hb : b < 2) : f_X8_ofBurr (nI b) (1 : Int32) S = some (S (13 + 4 * b + 1)) := r_ofBurr (w := 1) hb (by decide)
theorem r_ei0 (b : Nat) : (13 : Int32) + (4 : Int32) * nI b + (0 : Int32) = nI (13 + 4 * b) := by
  rw [fa_lit 13, fa_lit 4, fa_lit 0, pk_mul, nI_add, nI_add, Nat.add_zero]
theorem r_ei1 (b : Nat) : (13 : Int32) + (4 : Int32) * nI b + (1 : Int32) = nI (13 + 4 * b + 1) := by
  rw [fa_lit 13, fa_lit 4, fa_lit 1, pk_mul, nI_add, nI_add]
theorem r_ei3 (b : Nat) : (13 : Int32) + (4 : Int32) * nI b + (3 : Int32) = nI (13 + 4 * b + 3) := by
  rw [fa_lit 13, fa_lit 4, fa_lit 3, pk_mul, nI_add, nI_add]
/-- other burrs, another second -/
theorem MR_bt {σ : Sp} {B : Nat} {S S' : Nat → Int32} (h : MR σ S) (hk : KK σ B) (e : ∀ i, i ≠ 0 → (i < 13 ∨ 21 ≤ i) → S' i = S i) {b0 b1 : Bu} {se : Nat} (h0 : buM 13 b0 S') (h1 : buM 17 b1 S') (hse : S' 0 = nI se) : MR (v_lo σ, v_ch σ, v_ba σ, b0, b1, v_K σ, v_mk σ, v_st σ, se, v_fi σ, v_gr σ, v_br σ, v_pu σ, v_nr σ) S' := by
  obtain ⟨m1, m2, m3, m4, m5, m6, m7, m8, m9, m10, m11, m12, m13, m14⟩ := h
  obtain ⟨k1, k2, k3, k4, k5, k6, k7, k8, k9, k10, k11, k12, k13, k14⟩ := hk
  have l1 := len_tot k5
  have l2 := len_tot k8
  exact ⟨m1.of k4 (fun i q1 q2 => e i (by omega) (by omega)), h0, h1, m4.of (n := 100) (by omega) (fun i q1 q2 => e i (by omega) (by omega)), m5.of (n := 400) (by omega) (fun i q1 q2 => e i (by omega) (by omega)), m6.of (fun i q1 q2 => e i (by omega) (by omega)), (e 5 (by decide) (by decide)).trans m7, m8.of (fun i q1 q2 => e i (by omega) (by omega)), hse, (e 1 (by decide) (by decide)).trans m10, (e 2 (by decide) (by decide)).trans m11, (e 3 (by decide) (by decide)).trans m12, (e 4 (by decide) (by decide)).trans m13, (e 6 (by decide) (by decide)).trans m14⟩
theorem r_dial {σ : Sp} {hs : List Sp} {B : Nat} {S P : Nat → Int32} {pasts runs : Int32} (h : PR hs P pasts) (hm : MR σ S) (hk : KK σ B) (hK : KH hs B) (hr : runs = 0 ∨ runs = 1) (x1 x2 : Int32) : ∃ R, f_X8_dial x1 x2 S P pasts runs = some R ∧ RC σ (o_dial (nx x1) (nx x2) σ) hs (a_dial x1 x2 (v_b0 σ) (v_b1 σ)) S P pasts runs R := by
  unfold a_dial
  rw [f_X8_dial, r_isOne]
  simp only [Option.bind_some]
  by_cases c1 : x1 = 0 ∨ x1 = 1
  · rw [if_pos c1, if_neg (by decide), r_in]
    simp only [Option.bind_some]
    by_cases c2 : x2 < 1 ∨ (60 : Int32) < x2
    · rw [if_pos c2, if_pos rfl, if_pos (show bad2 x1 x2 60 from Or.inr c2)]
      exact ⟨_, rfl, RC_neg ltA⟩
    · rw [if_neg c2, if_neg (by decide), if_neg (show ¬ bad2 x1 x2 60 from fun q => by rcases q with q | q; exact q c1; exact c2 q)]
      obtain ⟨b, hb, rfl⟩ := v01 c1
      obtain ⟨a, ha1, ha2, rfl⟩ := v_rng (hi := 60) (by decide) (fun q => c2 (Or.inl q)) (fun q => c2 (Or.inr q))
      obtain ⟨P', pasts', e1, e2, e3⟩ := r_chg h hm hk hK hr
      have eb : (nI b).toNatClampNeg = b := v_cl (by omega)
      have ea : (nI a).toNatClampNeg = a := v_cl (by omega)
      have hd := (bsel_K b hk.2.2.2.2.2.2.2.2.2.2.1 hk.2.2.2.2.2.2.2.2.2.2.2.1).2.1
      have hM : MR (o_dial b a σ) (upd S (13 + 4 * b) (nI a)) := by
        refine MR_bt (b0 := if b = 0 then (a, (v_b0 σ).2) else v_b0 σ) (b1 := if b = 0 then v_b1 σ else (a, (v_b1 σ).2)) (se := v_se σ) hm hk (fun i i1 i2 => pk_un (by omega)) ?_ ?_ ((pk_un (by omega)).trans hm.2.2.2.2.2.2.2.2.1)
        · rcases (show b = 0 ∨ b = 1 by omega) with rfl | rfl
          · exact ⟨pk_us, (pk_un (by decide)).trans hm.2.1.2.1, (pk_un (by decide)).trans hm.2.1.2.2.1, (pk_un (by decide)).trans hm.2.1.2.2.2⟩
          · exact hm.2.1.of (fun i q1 q2 => pk_un (by omega))
        · rcases (show b = 0 ∨ b = 1 by omega) with rfl | rfl
          · exact hm.2.2.1.of (fun i q1 q2 => pk_un (by omega))
          · exact ⟨pk_us, (pk_un (by decide)).trans hm.2.2.1.2.1, (pk_un (by decide)).trans hm.2.2.1.2.2.1, (pk_un (by decide)).trans hm.2.2.1.2.2.2⟩
      simp only [nx, eb, ea]
      rw [e1]
      simp only [Option.bind_some]
      rw [r_ofB0 hb]
      simp only [Option.bind_some]
      rw [r_ei0, gd_t (nI_in (by omega) (by decide)), v_cl (by omega), lt_v, (bs_M hm hb).1]
      exact ⟨_, rfl, RC_pos (nI_nn (by omega)) hM e2 e3⟩
  · rw [if_neg c1, if_pos rfl, if_pos (show bad2 x1 x2 60 from Or.inl c1)]
    exact ⟨_, rfl, RC_neg ltA⟩
theorem r_rest {σ : Sp} {hs : List Sp} {B : Nat} {S P : Nat → Int32} {pasts runs : Int32} (h : PR hs P pasts) (hm : MR σ S) (hk : KK σ B) (hK : KH hs B) (hB : B < 2 ^ 28) (hr : runs = 0 ∨ runs = 1) (x1 : Int32) : ∃ R, f_X8_rest x1 S P pasts runs = some R ∧ RC σ (o_rest (nx x1) σ) hs (a_rest x1 (v_b0 σ).2.1 (v_b1 σ).2.1 (v_se σ)) S P pasts runs R := by
  unfold a_rest
  rw [f_X8_rest, r_in]
  simp only [Option.bind_some]
  by_cases c2 : x1 < 1 ∨ (999 : Int32) < x1
  · rw [if_pos c2, if_pos rfl, if_pos (show x1 < 1 ∨ nI 999 < x1 from c2)]
    exact ⟨_, rfl, RC_neg ltA⟩
  · rw [if_neg c2, if_neg (by decide), if_neg (show ¬ (x1 < 1 ∨ nI 999 < x1) from c2)]
    obtain ⟨a, ha1, ha2, rfl⟩ := v_rng (hi := 999) (by decide) (fun q => c2 (Or.inl q)) (fun q => c2 (Or.inr q))
    obtain ⟨P', pasts', e1, e2, e3⟩ := r_chg h hm hk hK hr
    have ea : (nI a).toNatClampNeg = a := v_cl (by omega)
    have k11 := hk.2.2.2.2.2.2.2.2.2.2.1
    have k12 := hk.2.2.2.2.2.2.2.2.2.2.2.1
    have k14 := hk.2.2.2.2.2.2.2.2.2.2.2.2.2
    obtain ⟨S', a1, a2, a3, a4, a5⟩ := r_passes (n := a) (by omega) hm.2.2.2.2.2.2.2.2.1 hm.2.1.2.1 hm.2.2.1.2.1 (by omega) k11.2.2 k12.2.2
    rw [e1]
    simp only [Option.bind_some]
    rw [a1]
    simp only [Option.bind_some]
    simp only [nx, ea]
    have hw0 := k11.2.2
    have hw1 := k12.2.2
    have hM : MR (o_rest a σ) S' := MR_bt (b0 := buC (v_b0 σ) (tmz (v_se σ) a)) (b1 := buC (v_b1 σ) (tmz (v_se σ) a)) (se := v_se σ + a) hm hk (fun i i1 i2 => a5 i i1 (by omega) (by omega)) ⟨(a5 13 (by decide) (by decide) (by decide)).trans hm.2.1.1, a3, (a5 15 (by decide) (by decide) (by decide)).trans hm.2.1.2.2.1, (a5 16 (by decide) (by decide) (by decide)).trans hm.2.1.2.2.2⟩ ⟨(a5 17 (by decide) (by decide) (by decide)).trans hm.2.2.1.1, a4, (a5 19 (by decide) (by decide) (by decide)).trans hm.2.2.1.2.2.1, (a5 20 (by decide) (by decide) (by decide)).trans hm.2.2.1.2.2.2⟩ a2
    exact ⟨_, rfl, RC_pos (nI_nn (by omega)) hM e2 e3⟩
theorem r_purge {σ : Sp} {hs : List Sp} {B : Nat} {S P : Nat → Int32} {pasts runs : Int32} (h : PR hs P pasts) (hm : MR σ S) (hk : KK σ B) (hK : KH hs B) (hr : runs = 0 ∨ runs = 1) : ∃ R, f_X8_purge S P pasts runs = some R ∧ RC σ (o_purge σ) hs (nI (tot (v_ch σ))) S P pasts runs R := by
  obtain ⟨P', pasts', e1, e2, e3⟩ := r_chg h hm hk hK hr
  obtain ⟨m1, m2, m3, m4, m5, m6, m7, m8, m9, m10, m11, m12, m13, m14⟩ := hm
  obtain ⟨k1, k2, k3, k4, k5, k6, k7, k8, k9, k10, k11, k12, k13, k14⟩ := hk
  have l1 := len_tot k5
  have l2 := len_tot k8
  have ec : f_X8_amounts (34 : Int32) (35 : Int32) S = some (nI (tot (v_ch σ))) := r_amounts (b := 34) m4 (okP_of k5 (by omega)) (by omega)
  have c4 : (4 : Int32).toNatClampNeg = 4 := rfl
  rw [f_X8_purge, e1]
  simp only [Option.bind_some]
  rw [ec]
  simp only [Option.bind_some, lt_v, c4, c34]
  have e : ∀ i, i ≠ 4 → i ≠ 34 → upd (upd S 4 (S 4 + nI (tot (v_ch σ)))) 34 (0 : Int32) i = S i := fun i q1 q2 => (pk_un q2).trans (pk_un q1)
  refine ⟨_, rfl, RC_pos (nI_nn (by omega)) ⟨m1.of k4 (fun i q1 q2 => e i (by omega) (by omega)), m2.of (fun i q1 q2 => e i (by omega) (by omega)), m3.of (fun i q1 q2 => e i (by omega) (by omega)), ⟨pk_us, fun k hk => absurd hk (Nat.not_lt_zero k)⟩, m5.of (n := 400) (by omega) (fun i q1 q2 => e i (by omega) (by omega)), m6.of (fun i q1 q2 => e i (by omega) (by omega)), (e 5 (by decide) (by decide)).trans m7, m8.of (fun i q1 q2 => e i (by omega) (by omega)), (e 0 (by decide) (by decide)).trans m9, (e 1 (by decide) (by decide)).trans m10, (e 2 (by decide) (by decide)).trans m11, (e 3 (by decide) (by decide)).trans m12, ?_, (e 6 (by decide) (by decide)).trans m14⟩ e2 e3⟩
  show upd (upd S 4 (S 4 + nI (tot (v_ch σ)))) 34 (0 : Int32) 4 = v_pu σ + nI (tot (v_ch σ))
  rw [pk_un (by decide), pk_us, m13]
theorem r_least {j : Nat} (hj : j < 6) : f_X8_leastOf (nI j) = some (nI (lsN j)) := by
  rcases six hj with rfl | rfl | rfl | rfl | rfl | rfl <;> rfl
theorem r_most {j : Nat} (hj : j < 6) : f_X8_mostOf (nI j) = some (nI (msN j)) := by
  rcases six hj with rfl | rfl | rfl | rfl | rfl | rfl <;> rfl
theorem r_set {σ : Sp} {hs : List Sp} {B : Nat} {S P : Nat → Int32} {pasts runs : Int32} (h : PR hs P pasts) (hm : MR σ S) (hk : KK σ B) (hK : KH hs B) (hr : runs = 0 ∨ runs = 1) (x1 x2 : Int32) : ∃ R, f_X8_set x1 x2 S P pasts runs = some R ∧ RC σ (o_set (nx x1) (nx x2) σ) hs (a_set x1 x2 (v_st σ)) S P pasts runs R := by
  have hz := fun q => aset_ok (x1 := x1) (x2 := x2) (v := v_st σ) q
  revert hz
  unfold a_set
  rw [f_X8_set, r_in]
  simp only [Option.bind_some]
  by_cases c1 : x1 < 0 ∨ 6 ≤ nx x1
  · intro _
    have c1' : x1 < 0 ∨ (5 : Int32) < x1 := by
      by_cases c2 : x1 < 0
      · exact Or.inl c2
      · obtain ⟨j, hj, rfl⟩ := nI_of c2
        rcases c1 with c1 | c1
        · exact absurd c1 c2
        · rw [show nx (nI j) = j from v_cl hj] at c1
          exact Or.inr (nI_lt (a := 5) (by omega) hj)
    rw [if_pos c1', if_pos rfl, if_pos c1]
    exact ⟨_, rfl, RC_neg ltA⟩
  · rw [if_neg c1]
    intro hz
    obtain ⟨j, hj, rfl⟩ := nI_of (fun q => c1 (Or.inl q))
    have ej : nx (nI j) = j := v_cl hj
    rw [ej] at c1 hz ⊢
    have hj6 : j < 6 := Nat.not_le.mp (fun q => c1 (Or.inr q))
    have c1' : ¬ (nI j < 0 ∨ (5 : Int32) < nI j) := fun q => by
      rcases q with q | q
      · exact c1 (Or.inl q)
      · exact nI_nlt (a := 5) (b := j) (by omega) (by omega) q
    rw [if_neg c1', if_neg (by decide), r_least hj6]
    simp only [Option.bind_some]
    rw [r_most hj6]
    simp only [Option.bind_some]
    rw [r_in]
    simp only [Option.bind_some]
    by_cases c2 : x2 < nI (lsN j) ∨ nI (msN j) < x2
    · rw [if_pos c2, if_pos rfl, if_pos c2]
      exact ⟨_, rfl, RC_neg ltA⟩
    · rw [if_neg c2] at hz ⊢
      rw [if_neg (by decide)]
      obtain ⟨P', pasts', e1, e2, e3⟩ := r_chg h hm hk hK hr
      rw [e1]
      simp only [Option.bind_some]
      rw [if_neg c2, fa_lit 7, nI_add, gd_t (nI_in (by omega) (by decide)), lt_v, gd_t (nI_in (by omega) (by decide)), lt_v, v_cl (by omega)]
      obtain ⟨m1, m2, m3, m4, m5, m6, m7, m8, m9, m10, m11, m12, m13, m14⟩ := hm
      obtain ⟨k1, k2, k3, k4, k5, k6, k7, k8, k9, k10, k11, k12, k13, k14⟩ := hk
      have l1 := len_tot k5
      have l2 := len_tot k8
      have hv : v_st σ j < 2 ^ 31 := by
        obtain ⟨s1, s2, s3, s4, s5, s6, s7, s8, s9⟩ := k13
        rcases six hj6 with rfl | rfl | rfl | rfl | rfl | rfl <;> omega
      have e5 := (hz (nI_pos' hv)).2.2.2.2.1
      rw [m8 j hj6]
      refine ⟨_, rfl, RC_pos (nI_nn hv) ⟨m1.of k4 (fun i q1 q2 => pk_un (by omega)), m2.of (fun i q1 q2 => pk_un (by omega)), m3.of (fun i q1 q2 => pk_un (by omega)), m4.of (n := 100) (by omega) (fun i q1 q2 => pk_un (by omega)), m5.of (n := 400) (by omega) (fun i q1 q2 => pk_un (by omega)), m6.of (fun i q1 q2 => pk_un (by omega)), (pk_un (by omega)).trans m7, fun k hk => ?_, (pk_un (by omega)).trans m9, (pk_un (by omega)).trans m10, (pk_un (by omega)).trans m11, (pk_un (by omega)).trans m12, (pk_un (by omega)).trans m13, (pk_un (by omega)).trans m14⟩ e2 e3⟩
      show upd S (7 + j) x2 (7 + k) = nI (updN (v_st σ) j (nx x2) k)
      unfold updN
      by_cases e : k = j
      · subst e
        rw [pk_us, if_pos rfl]
        exact e5
      · rw [pk_un (by omega), if_neg e]
        exact m8 k hk
theorem r_corrects {b t : Nat} {x : Bu} {S : Nat → Int32} {g : Nat} (hb : b < 2) (hx : buK x) (h : buM (13 + 4 * b) x S) (hg : S 7 = nI g) (g1 : 100 ≤ g) (g2 : g ≤ 600) (ht : t ≤ 30000) : ∃ S', f_X8_corrects (nI b) (nI t) S = some S' ∧ buM (13 + 4 * b) (buX x t g) S' ∧ ∀ i, i ≠ 13 + 4 * b → i ≠ 13 + 4 * b + 3 → S' i = S i := by
  obtain ⟨x1, x2, x3⟩ := hx
  have c7 : (7 : Int32).toNatClampNeg = 7 := rfl
  have hdt : x.1 * t ≤ 60 * 30000 := Nat.mul_le_mul x2 ht
  have key : ∀ z : Nat, f_X8_corrects_J60 (nI b) (nI z) (nI (13 + 4 * b)) S = some (upd (upd S (13 + 4 * b) (nI z)) (13 + 4 * b + 3) (x.2.2.2 + 1)) := fun z => by
    have u : upd S (13 + 4 * b) (nI z) (13 + 4 * b + 3) = x.2.2.2 := (pk_un (by omega)).trans h.2.2.2
    rw [f_X8_corrects_J60, gd_t (nI_in (by omega) (by decide)), v_cl (by omega)]
    simp only [lt_v]
    rw [r_ei3, gd_t (nI_in (by omega) (by decide)), gd_t (nI_in (by omega) (by decide)), v_cl (by omega), u]
  refine ⟨upd (upd S (13 + 4 * b) (nI (cor x.1 t g))) (13 + 4 * b + 3) (x.2.2.2 + 1), ?_, ⟨(pk_un (by omega)).trans pk_us, (pk_un (by omega)).trans ((pk_un (by omega)).trans h.2.1), (pk_un (by omega)).trans ((pk_un (by omega)).trans h.2.2.1), pk_us⟩, fun i i1 i2 => (pk_un i2).trans (pk_un i1)⟩
  rw [f_X8_corrects, r_ofB0 hb]
  simp only [Option.bind_some]
  rw [c7, hg, gd_t (nI_ne0 (by omega) (by omega)), h.1, pk_mul]
  unfold cor
  generalize hm : x.1 * t = m at hdt ⊢
  have hq : (m + g / 2) / g ≤ m + g / 2 := Nat.div_le_self _ _
  rw [fa_lit 2, pk_div (by omega) (by decide) (by decide), nI_add, pk_div (by omega) (by omega) (by omega), lt_v, r_ei0, fa_lit 60, fa_lit 1]
  generalize hz : (m + g / 2) / g = z at hq ⊢
  by_cases h1 : 1 ≤ z
  · rw [if_pos (nI_le h1 (by omega))]
    by_cases h2 : z ≤ 60
    · rw [if_pos (nI_le h2 (by decide)), key, show max 1 (min 60 z) = z by omega]
      rfl
    · rw [if_neg (nI_ge (by omega) (by omega)), key, show max 1 (min 60 z) = 60 by omega]
      rfl
  · rw [if_neg (nI_ge (by omega) (by decide)), key, show max 1 (min 60 z) = 1 by omega]
    rfl
theorem r_correct {σ : Sp} {hs : List Sp} {B : Nat} {S P : Nat → Int32} {pasts runs : Int32} (h : PR hs P pasts) (hm : MR σ S) (hk : KK σ B) (hK : KH hs B) (hr : runs = 0 ∨ runs = 1) (x1 : Int32) : ∃ R, f_X8_correct x1 S P pasts runs = some R ∧ RC σ (o_corr (nx x1) σ) hs (a_corr x1 (v_K σ) (v_b0 σ) (v_b1 σ) (v_st σ 0)) S P pasts runs R := by
  have c546 : (546 : Int32).toNatClampNeg = 546 := rfl
  have c548 : (548 : Int32).toNatClampNeg = 548 := rfl
  unfold a_corr
  rw [f_X8_correct, r_isOne]
  simp only [Option.bind_some]
  by_cases c1 : x1 = 0 ∨ x1 = 1
  · rw [if_pos c1, if_neg (by decide), if_neg (not_not_intro c1)]
    have h12 := hm.2.2.2.2.2.1.2.1
    rw [c546, hm.2.2.2.2.2.1.1]
    by_cases c2 : (v_K σ).length = 0
    · rw [if_pos (by rw [c2]; exact nI_0), if_pos c2]
      exact ⟨_, rfl, RC_neg ltB⟩
    · rw [if_neg (nI_ne0 (by omega) (by omega)), if_neg c2]
      obtain ⟨b, hb, rfl⟩ := v01 c1
      obtain ⟨P', pasts', e1, e2, e3⟩ := r_chg h hm hk hK hr
      have eb : nx (nI b) = b := v_cl (by omega)
      have k11 := hk.2.2.2.2.2.2.2.2.2.2.1
      have k12 := hk.2.2.2.2.2.2.2.2.2.2.2.1
      have k13 := hk.2.2.2.2.2.2.2.2.2.2.2.2.1
      have ht := hm.2.2.2.2.2.1.2.2.1 0 (by omega)
      have et : S 548 = nI (sk0 (v_K σ) 0).2.1 := (hm.2.2.2.2.2.1.2.2.2 0 (by omega)).2.1
      obtain ⟨S', a1, a2, a3⟩ := r_corrects (g := v_st σ 0) hb (bsel_K b k11 k12) (bs_M hm hb) (hm.2.2.2.2.2.2.2.1 0 (by decide)) k13.1 k13.2.1 ht
      rw [e1]
      simp only [Option.bind_some]
      rw [c548, et, a1]
      simp only [Option.bind_some]
      rw [r_ofB0 hb, eb, a2.1]
      simp only [Option.bind_some]
      have hX := (buX_K (sk0 (v_K σ) 0).2.1 (v_st σ 0) (bsel_K b k11 k12)).2.1
      refine ⟨_, rfl, RC_pos (nI_nn (Nat.lt_of_le_of_lt hX (by decide))) (MR_bt hm hk (fun i i1 i2 => a3 i (by omega) (by omega)) ?_ ?_ ((a3 0 (by omega) (by omega)).trans hm.2.2.2.2.2.2.2.2.1)) e2 e3⟩
      · rcases (show b = 0 ∨ b = 1 by omega) with rfl | rfl
        · exact a2
        · exact hm.2.1.of (fun i q1 q2 => a3 i (by omega) (by omega))
      · rcases (show b = 0 ∨ b = 1 by omega) with rfl | rfl
        · exact hm.2.2.1.of (fun i q1 q2 => a3 i (by omega) (by omega))
        · exact a2
  · rw [if_neg c1, if_pos rfl, if_pos c1]
    exact ⟨_, rfl, RC_neg ltA⟩
end
section
/-! the reference's fill and grind -/
/-- other lots, and how much was filled in -/
theorem MR_lo {σ : Sp} {B : Nat} {S S' : Nat → Int32} (h : MR σ S) (hk : KK σ B) (e : ∀ i, i ≠ 1 → (i < 21 ∨ 34 ≤ i) → S' i = S i) {L : List (Nat × Nat)} {fi : Int32} (h0 : loM L S') (h1 : S' 1 = fi) : MR (L, v_ch σ, v_ba σ, v_b0 σ, v_b1 σ, v_K σ, v_mk σ, v_st σ, v_se σ, fi, v_gr σ, v_br σ, v_pu σ, v_nr σ) S' := by
  obtain ⟨m1, m2, m3, m4, m5, m6, m7, m8, m9, m10, m11, m12, m13, m14⟩ := h
  obtain ⟨k1, k2, k3, k4, k5, k6, k7, k8, k9, k10, k11, k12, k13, k14⟩ := hk
  have l1 := len_tot k5
  have l2 := len_tot k8
  exact ⟨h0, m2.of (fun i q1 q2 => e i (by omega) (by omega)), m3.of (fun i q1 q2 => e i (by omega) (by omega)), m4.of (n := 100) (by omega) (fun i q1 q2 => e i (by omega) (by omega)), m5.of (n := 400) (by omega) (fun i q1 q2 => e i (by omega) (by omega)), m6.of (fun i q1 q2 => e i (by omega) (by omega)), (e 5 (by decide) (by decide)).trans m7, m8.of (fun i q1 q2 => e i (by omega) (by omega)), (e 0 (by decide) (by decide)).trans m9, h1, (e 2 (by decide) (by decide)).trans m11, (e 3 (by decide) (by decide)).trans m12, (e 4 (by decide) (by decide)).trans m13, (e 6 (by decide) (by decide)).trans m14⟩
theorem c1n : (1 : Int32).toNatClampNeg = 1 := rfl
theorem r_J167 {a : Nat} {runs pasts : Int32} {L : List (Nat × Nat)} {S P : Nat → Int32} (h : loM L S) (hl : L.length ≤ 6) : f_X8_fill_J167 runs (nI a) S P pasts = some (nI (tot L), upd S 1 (S 1 + nI a), P, pasts) := by
  rw [f_X8_fill_J167]
  simp only [lt_v, c1n]
  rw [r_hopper (h.of hl (fun i q1 q2 => pk_un (by omega))) hl]
  rfl
theorem r_J74n {σ : Sp} {hs : List Sp} {B : Nat} {S P : Nat → Int32} {pasts runs : Int32} (h : PR hs P pasts) (hm : MR σ S) (hk : KK σ B) (hK : KH hs B) (hr : runs = 0 ∨ runs = 1) {k a : Nat} (hk2 : k < 2) (ha : a ≤ 999) (hl : (v_lo σ).length < 6) (he : ends k (v_lo σ) = false) (y3 : Int32) : ∃ R, f_X8_fill_J74 runs (nI k) (nI a) y3 0 S P pasts = some R ∧ RC σ (o_fill k a σ) hs (if 4000 < tot (v_lo σ) + a then cLR else nI (tot (v_lo σ) + a)) S P pasts runs R := by
  have m1 := hm.1
  have k3 := hk.2.2.1
  rw [f_X8_fill_J74, r_hopper m1 (by omega)]
  simp only [Option.bind_some]
  rw [nI_add, fa_lit 4000]
  by_cases c : 4000 < tot (v_lo σ) + a
  · rw [if_neg (nI_ge c (by omega)), if_pos c]
    exact ⟨_, rfl, RC_neg ltC⟩
  · rw [if_pos (nI_le (by omega) (by omega)), if_neg c]
    obtain ⟨P', pasts', e1, e2, e3⟩ := r_chg h hm hk hK hr
    rw [e1]
    simp only [Option.bind_some]
    have e21 : S (21 : Int32).toNatClampNeg = nI (v_lo σ).length := m1.1
    generalize hn : (v_lo σ).length = n at e21 hl
    have ei : (22 : Int32) + (2 : Int32) * nI n = nI (22 + 2 * n) := by rw [fa_lit 22, fa_lit 2, pk_mul, nI_add]
    have ei1 : (22 : Int32) + (2 : Int32) * nI n + (1 : Int32) = nI (22 + 2 * n + 1) := by rw [ei, fa_lit 1, nI_add]
    rw [if_pos trivial, e21, ei, gd_t (nI_in (by omega) (by decide)), lt_v]
    have u21 : upd S (nI (22 + 2 * n)).toNatClampNeg (nI k) (21 : Int32).toNatClampNeg = nI n := by
      rw [v_cl (by omega)]
      exact (pk_un (by show 21 ≠ 22 + 2 * n; omega)).trans e21
    rw [u21, ei1, gd_t (nI_in (by omega) (by decide)), lt_v, v_cl (by omega), v_cl (by omega)]
    have w21 : upd (upd S (22 + 2 * n) (nI k)) (22 + 2 * n + 1) (nI a) (21 : Int32).toNatClampNeg = nI n := (pk_un (by show 21 ≠ 22 + 2 * n + 1; omega)).trans ((pk_un (by show 21 ≠ 22 + 2 * n; omega)).trans e21)
    rw [w21, lt_v, lt_v, nI_1, c21]
    have hL : loM (pour k a (v_lo σ)) (upd (upd (upd S (22 + 2 * n) (nI k)) (22 + 2 * n + 1) (nI a)) 21 (nI (n + 1))) := by
      unfold pour
      rw [he, if_neg (by decide)]
      refine ⟨?_, fun j hj => ?_⟩
      · rw [pk_us, List.length_append, hn]
        rfl
      · rw [List.length_append, List.length_singleton, hn] at hj
        by_cases q : j = n
        · subst q
          have := lk_r (L := v_lo σ) (K := [(a, k)]) (k := 0)
          rw [Nat.add_zero, lk_0, hn] at this
          rw [this]
          exact ⟨(pk_un (by omega)).trans ((pk_un (by omega)).trans pk_us), (pk_un (by omega)).trans pk_us⟩
        · rw [lk_l (by omega)]
          have := m1.2 j (by omega)
          exact ⟨(pk_un (by omega)).trans ((pk_un (by omega)).trans ((pk_un (by omega)).trans this.1)), (pk_un (by omega)).trans ((pk_un (by omega)).trans ((pk_un (by omega)).trans this.2))⟩
    have hlen : (pour k a (v_lo σ)).length ≤ 6 := pour_len (by omega) (Or.inl (by omega))
    rw [r_J167 hL hlen, pour_tot]
    refine ⟨_, rfl, RC_pos (nI_nn (by omega)) (σ' := o_fill k a σ) ?_ e2 e3⟩
    refine MR_lo hm hk (fun i i1 i2 => ?_) (hL.of hlen (fun i i1 i2 => pk_un (by omega))) ?_
    · rw [pk_un i1, pk_un (by omega), pk_un (by omega), pk_un (by omega)]
    · rw [pk_us, pk_un (by omega), pk_un (by omega), pk_un (by omega), hm.2.2.2.2.2.2.2.2.2.1]
theorem r_J74y {σ : Sp} {hs : List Sp} {B : Nat} {S P : Nat → Int32} {pasts runs : Int32} (h : PR hs P pasts) (hm : MR σ S) (hk : KK σ B) (hK : KH hs B) (hr : runs = 0 ∨ runs = 1) {k a : Nat} {K : List (Nat × Nat)} {x : Nat × Nat} (hk2 : k < 2) (ha : a ≤ 999) (hx : v_lo σ = K ++ [x]) (hxk : x.2 = k) : ∃ R, f_X8_fill_J74 runs (nI k) (nI a) (nI K.length) 1 S P pasts = some R ∧ RC σ (o_fill k a σ) hs (if 4000 < tot (v_lo σ) + a then cLR else nI (tot (v_lo σ) + a)) S P pasts runs R := by
  have m1 := hm.1
  have k3 := hk.2.2.1
  have k4 := hk.2.2.2.1
  have hlen : (v_lo σ).length = K.length + 1 := by rw [hx, List.length_append]; rfl
  rw [f_X8_fill_J74, r_hopper m1 (by omega)]
  simp only [Option.bind_some]
  rw [nI_add, fa_lit 4000]
  by_cases c : 4000 < tot (v_lo σ) + a
  · rw [if_neg (nI_ge c (by omega)), if_pos c]
    exact ⟨_, rfl, RC_neg ltC⟩
  · rw [if_pos (nI_le (by omega) (by omega)), if_neg c]
    obtain ⟨P', pasts', e1, e2, e3⟩ := r_chg h hm hk hK hr
    rw [e1]
    simp only [Option.bind_some]
    have hl := m1.2 K.length (by omega)
    have hr0 := lk_r (L := K) (K := [x]) (k := 0)
    rw [Nat.add_zero, lk_0] at hr0
    rw [hx, hr0] at hl
    generalize hn : K.length = n at hl hlen hr0
    have ei1 : (22 : Int32) + (2 : Int32) * nI n + (1 : Int32) = nI (22 + 2 * n + 1) := by rw [fa_lit 22, fa_lit 2, fa_lit 1, pk_mul, nI_add, nI_add]
    rw [if_neg (by decide), ei1, lt_v, gd_t (nI_in (by omega) (by decide)), lt_v, gd_t (nI_in (by omega) (by decide)), lt_v, v_cl (by omega), hl.2, nI_add]
    have hp : pour k a (v_lo σ) = K ++ [(x.1 + a, k)] := by
      unfold pour
      rw [hx, ends_app, show (x.2 == k) = true by simp [hxk], if_pos rfl, List.dropLast_concat, List.getLastD_concat]
    have hL : loM (pour k a (v_lo σ)) (upd S (22 + 2 * n + 1) (nI (x.1 + a))) := by
      rw [hp]
      refine ⟨?_, fun j hj => ?_⟩
      · rw [pk_un (by omega), m1.1, hlen, List.length_append, hn]
        rfl
      · rw [List.length_append, List.length_singleton, hn] at hj
        by_cases q : j = n
        · subst q
          have := lk_r (L := K) (K := [(x.1 + a, k)]) (k := 0)
          rw [Nat.add_zero, lk_0, hn] at this
          rw [this]
          exact ⟨(pk_un (by omega)).trans (hl.1.trans (congrArg nI hxk)), pk_us⟩
        · have := m1.2 j (by omega)
          rw [hx, lk_l (by omega)] at this
          rw [lk_l (by omega)]
          exact ⟨(pk_un (by omega)).trans this.1, (pk_un (by omega)).trans this.2⟩
    have hlen2 : (pour k a (v_lo σ)).length ≤ 6 := by rw [hp, List.length_append, hn]; show n + 1 ≤ 6; omega
    rw [r_J167 hL hlen2, pour_tot]
    refine ⟨_, rfl, RC_pos (nI_nn (by omega)) (σ' := o_fill k a σ) ?_ e2 e3⟩
    refine MR_lo hm hk (fun i i1 i2 => ?_) (hL.of hlen2 (fun i i1 i2 => pk_un (by omega))) ?_
    · rw [pk_un i1, pk_un (by omega)]
    · rw [pk_us, pk_un (by omega), hm.2.2.2.2.2.2.2.2.2.1]
theorem r_fillX {σ : Sp} {hs : List Sp} {B : Nat} {S P : Nat → Int32} {pasts runs : Int32} (h : PR hs P pasts) (hm : MR σ S) (hk : KK σ B) (hK : KH hs B) (hr : runs = 0 ∨ runs = 1) {k a : Nat} (hk2 : k < 2) (ha1 : 1 ≤ a) (ha2 : a ≤ 999) (X : Int32) (hX1 : full k a (v_lo σ) → X = cLR) (hX0 : ¬ full k a (v_lo σ) → X = nI (tot (v_lo σ) + a)) : ∃ R, f_X8_fill (nI k) (nI a) S P pasts runs = some R ∧ RC σ (o_fill k a σ) hs X S P pasts runs R := by
  have k4 := hk.2.2.2.1
  have hm1 := hm.1.1
  have hkl := hk.2.1
  have c1 : nI k = 0 ∨ nI k = 1 := by
    rcases (show k = 0 ∨ k = 1 by omega) with rfl | rfl
    · exact Or.inl rfl
    · exact Or.inr rfl
  have c2 : ¬ (nI a < 1 ∨ (999 : Int32) < nI a) := fun q => by
    rcases q with q | q
    · exact nI_nlt (a := a) (b := 1) ha1 (by omega) q
    · exact nI_nlt (a := 999) (b := a) ha2 (by decide) q
  rw [f_X8_fill, r_isOne]
  simp only [Option.bind_some]
  rw [if_pos c1, if_neg (by decide), r_in]
  simp only [Option.bind_some]
  rw [if_neg c2, if_neg (by decide), c21, hm1, lt_v]
  have hno : ends k (v_lo σ) = false → ∀ y3, ∃ R, f_X8_fill_J54 runs (nI k) (nI a) y3 S P pasts = some R ∧ RC σ (o_fill k a σ) hs X S P pasts runs R := by
    intro he y3
    rw [f_X8_fill_J54, f_X8_fill_J55, if_pos rfl, c21, hm1]
    by_cases c3 : (v_lo σ).length = 6
    · rw [if_pos (by rw [c3]; rfl), hX1 (Or.inr ⟨by omega, he⟩)]
      exact ⟨_, rfl, RC_neg ltC⟩
    · rw [if_neg (show ¬ nI (v_lo σ).length = (6 : Int32) from fun q => c3 ((nI_eq (b := 6) (by omega) (by decide)).mp q))]
      obtain ⟨R, r1, r2⟩ := r_J74n h hm hk hK hr hk2 ha2 (by omega) he y3
      refine ⟨R, r1, ?_⟩
      by_cases c4 : 4000 < tot (v_lo σ) + a
      · rw [if_pos c4] at r2
        rw [hX1 (Or.inl c4)]
        exact r2
      · rw [if_neg c4] at r2
        rw [hX0 (fun q => by rcases q with q | q; exact c4 q; exact q.1 (by omega))]
        exact r2
  rcases Classical.em (v_lo σ = []) with q | q
  · rw [q] at hno ⊢
    rw [if_pos (by decide)]
    exact hno (ends_nil k) _
  · obtain ⟨K, x, hx⟩ := snoc_of _ q
    have hlen : (v_lo σ).length = K.length + 1 := by rw [hx, List.length_append]; rfl
    have hl := hm.1.2 K.length (by omega)
    have hr0 := lk_r (L := K) (K := [x]) (k := 0)
    rw [Nat.add_zero, lk_0] at hr0
    rw [hx, hr0] at hl
    have hx2 : x.2 < 2 := hkl x (by rw [hx]; exact List.mem_append_right _ (List.mem_singleton.mpr rfl))
    have ei : (22 : Int32) + (2 : Int32) * nI K.length = nI (22 + 2 * K.length) := by rw [fa_lit 22, fa_lit 2, pk_mul, nI_add]
    rw [hlen, nI_pred, if_neg (nI_pos (by omega)), ei, gd_t (nI_in (by omega) (by decide)), v_cl (by omega), hl.1]
    by_cases c3 : x.2 = k
    · rw [if_pos (congrArg nI c3), f_X8_fill_J55, if_neg (by decide)]
      obtain ⟨R, r1, r2⟩ := r_J74y h hm hk hK hr hk2 ha2 hx c3
      refine ⟨R, r1, ?_⟩
      have he : ends k (v_lo σ) = true := by rw [hx, ends_app]; simp [c3]
      by_cases c4 : 4000 < tot (v_lo σ) + a
      · rw [if_pos c4] at r2
        rw [hX1 (Or.inl c4)]
        exact r2
      · rw [if_neg c4] at r2
        rw [hX0 (fun q => by rcases q with q | q; exact c4 q; (rw [he] at q; exact absurd q.2 (by decide)))]
        exact r2
    · rw [if_neg (fun z => c3 ((nI_eq (by omega) (by omega)).mp z))]
      refine hno ?_ _
      rw [hx, ends_app]
      simp [c3]
theorem r_fill {σ : Sp} {hs : List Sp} {B : Nat} {S P : Nat → Int32} {pasts runs : Int32} (h : PR hs P pasts) (hm : MR σ S) (hk : KK σ B) (hK : KH hs B) (hr : runs = 0 ∨ runs = 1) (x1 x2 : Int32) : ∃ R, f_X8_fill x1 x2 S P pasts runs = some R ∧ RC σ (o_fill (nx x1) (nx x2) σ) hs (a_fill x1 x2 (v_lo σ)) S P pasts runs R := by
  unfold a_fill
  by_cases c : bad2 x1 x2 999
  · rw [if_pos c, f_X8_fill, r_isOne]
    simp only [Option.bind_some]
    by_cases c1 : x1 = 0 ∨ x1 = 1
    · rw [if_pos c1, if_neg (by decide), r_in]
      simp only [Option.bind_some]
      rw [if_pos (show x2 < 1 ∨ (999 : Int32) < x2 from by rcases c with c | c; exact absurd c1 c; exact c), if_pos rfl]
      exact ⟨_, rfl, RC_neg ltA⟩
    · rw [if_neg c1, if_pos rfl]
      exact ⟨_, rfl, RC_neg ltA⟩
  · rw [if_neg c]
    obtain ⟨e1, e2, e3, e4, e5⟩ := b2_no (by decide) c
    have := fun X => r_fillX h hm hk hK hr e1 e2 e3 X
    rw [← e4, ← e5] at this
    exact this _ (fun q => if_pos q) (fun q => if_neg q)
theorem r_grind {σ : Sp} {hs : List Sp} {B : Nat} {S P : Nat → Int32} {pasts runs : Int32} (h : PR hs P pasts) (hm : MR σ S) (hk : KK σ B) (hK : KH hs B) (hB : B < 2 ^ 28) (hr : runs = 0 ∨ runs = 1) (x1 x2 : Int32) : ∃ R, f_X8_grind x1 x2 S P pasts runs = some R ∧ RC σ (o_grind (nx x1) (nx x2) σ) hs (a_grind x1 x2 (v_lo σ) (v_ch σ) (v_ba σ) (v_st σ 2)) S P pasts runs R := by
  rw [f_X8_grind, r_couldGrind hm hk]
  simp only [Option.bind_some]
  by_cases c : 0 ≤ a_grind x1 x2 (v_lo σ) (v_ch σ) (v_ba σ) (v_st σ 2)
  · obtain ⟨g1, g2, g3, g4⟩ := agrind_ok c
    obtain ⟨e1, e2, e3, e4, e5⟩ := b2_no (by decide) g1
    rw [if_pos c, g4]
    generalize nx x1 = b at e1 e4 ⊢
    generalize nx x2 = a at g2 g3 e2 e3 e5 ⊢
    subst e4
    subst e5
    obtain ⟨P', pasts', q1, q2, q3⟩ := r_chg h hm hk hK hr
    obtain ⟨S1, a1, a2, a3, a4, a5, a6, a7, a8⟩ := r_grinds hm hk e1 e2 e3 g2 g3
    have k11 := hk.2.2.2.2.2.2.2.2.2.2.1
    have k12 := hk.2.2.2.2.2.2.2.2.2.2.2.1
    have k14 := hk.2.2.2.2.2.2.2.2.2.2.2.2.2
    have k7 := hk.2.2.2.2.2.2.1
    have hb01 : b = 0 ∨ b = 1 := by omega
    have w0 : S1 14 = nI (if b = 0 then buG (v_b0 σ) a else v_b0 σ).2.1 := by
      rcases hb01 with rfl | rfl
      · exact a5
      · exact (a8 14 (by omega) (by omega) (by omega) (by omega)).trans hm.2.1.2.1
    have w1 : S1 18 = nI (if b = 0 then v_b1 σ else buG (v_b1 σ) a).2.1 := by
      rcases hb01 with rfl | rfl
      · exact (a8 18 (by omega) (by omega) (by omega) (by omega)).trans hm.2.2.1.2.1
      · exact a5
    have x0 : (if b = 0 then buG (v_b0 σ) a else v_b0 σ).2.1 ≤ 300 := by
      split
      · exact buG_w _ _ k11.2.2
      · exact k11.2.2
    have x1 : (if b = 0 then v_b1 σ else buG (v_b1 σ) a).2.1 ≤ 300 := by
      split
      · exact k12.2.2
      · exact buG_w _ _ k12.2.2
    have t0 : S1 0 = nI (v_se σ) := (a8 0 (by omega) (by omega) (by omega) (by omega)).trans hm.2.2.2.2.2.2.2.2.1
    obtain ⟨S2, p1, p2, p3, p4, p5⟩ := r_passes (n := (a + 9) / 10) (by omega) t0 w0 w1 (by omega) x0 x1
    have ht : (nI a + (9 : Int32)) / (10 : Int32) = nI ((a + 9) / 10) := by rw [fa_lit 9, fa_lit 10, nI_add, pk_div (by omega) (by decide) (by decide)]
    rw [q1]
    simp only [Option.bind_some]
    rw [a1]
    simp only [Option.bind_some]
    rw [ht, p1]
    simp only [Option.bind_some]
    rw [if_pos (nI_pos' (by omega))]
    have hg : g_out (v_ch σ) a (v_st σ 2) ≤ 500 := by unfold g_out; omega
    have hM : MR (o_grind b a σ) S2 := by
      obtain ⟨m1, m2, m3, m4, m5, m6, m7, m8, m9, m10, m11, m12, m13, m14⟩ := hm
      have kk := K_grind hk (x1 := nI b) (x2 := nI a) c
      rw [show nx (nI b) = b from v_cl (by omega), show nx (nI a) = a from v_cl (by omega)] at kk
      obtain ⟨j1, j2, j3, j4, j5, j6, j7, j8, j9, j10, j11, j12, j13, j14⟩ := kk
      have l1 := len_tot j5
      have l2 := len_tot j8
      have n1 : (tk (g_out (v_ch σ) a (v_st σ 2)) (g_in (v_lo σ) (v_ch σ) (bsel (v_b0 σ) (v_b1 σ) b).1 (bsel (v_b0 σ) (v_b1 σ) b).2.1 b a)).2.length ≤ 100 := Nat.le_trans l1 j7
      have n2 : (v_ba σ ++ (tk (g_out (v_ch σ) a (v_st σ 2)) (g_in (v_lo σ) (v_ch σ) (bsel (v_b0 σ) (v_b1 σ) b).1 (bsel (v_b0 σ) (v_b1 σ) b).2.1 b a)).1).length ≤ 400 := Nat.le_trans l2 j10
      have far : ∀ i, (i < 13 ∨ 546 ≤ i) → i ≠ 0 → i ≠ 2 → S2 i = S i := fun i i1 i2 i3 => (p5 i i2 (by omega) (by omega)).trans (a8 i (by omega) i3 (by omega) (by omega))
      refine ⟨a2.of j4 (fun i i1 i2 => p5 i (by omega) (by omega) (by omega)), ⟨?_, p3, ?_, ?_⟩, ⟨?_, p4, ?_, ?_⟩, a3.of (n := 100) n1 (fun i i1 i2 => p5 i (by omega) (by omega) (by omega)), a4.of (n := 400) n2 (fun i i1 i2 => p5 i (by omega) (by omega) (by omega)), m6.of (fun i i1 i2 => far i (by omega) (by omega) (by omega)), (far 5 (by decide) (by decide) (by decide)).trans m7, m8.of (fun i i1 i2 => far i (by omega) (by omega) (by omega)), p2, (far 1 (by decide) (by decide) (by decide)).trans m10, (p5 2 (by decide) (by decide) (by decide)).trans a7, (far 3 (by decide) (by decide) (by decide)).trans m12, (far 4 (by decide) (by decide) (by decide)).trans m13, (far 6 (by decide) (by decide) (by decide)).trans m14⟩
      · refine (p5 13 (by decide) (by decide) (by decide)).trans ((a8 13 (by decide) (by decide) (by omega) (by omega)).trans (m2.1.trans (congrArg nI ?_)))
        rcases hb01 with rfl | rfl <;> rfl
      · refine (p5 15 (by decide) (by decide) (by decide)).trans ?_
        rcases hb01 with rfl | rfl
        · exact a6
        · exact (a8 15 (by decide) (by decide) (by decide) (by decide)).trans m2.2.2.1
      · refine (p5 16 (by decide) (by decide) (by decide)).trans ((a8 16 (by decide) (by decide) (by omega) (by omega)).trans (m2.2.2.2.trans ?_))
        rcases hb01 with rfl | rfl <;> rfl
      · refine (p5 17 (by decide) (by decide) (by decide)).trans ((a8 17 (by decide) (by decide) (by omega) (by omega)).trans (m3.1.trans (congrArg nI ?_)))
        rcases hb01 with rfl | rfl <;> rfl
      · refine (p5 19 (by decide) (by decide) (by decide)).trans ?_
        rcases hb01 with rfl | rfl
        · exact (a8 19 (by decide) (by decide) (by decide) (by decide)).trans m3.2.2.1
        · exact a6
      · refine (p5 20 (by decide) (by decide) (by decide)).trans ((a8 20 (by decide) (by decide) (by omega) (by omega)).trans (m3.2.2.2.trans ?_))
        rcases hb01 with rfl | rfl <;> rfl
    exact ⟨_, rfl, RC_pos (nI_nn (by omega)) hM q2 q3⟩
  · rw [if_neg c]
    exact ⟨_, rfl, RC_neg (Int32.not_le.mp c)⟩
end
section
/-! the reference's shot -/
theorem r_flowOf {v : Nat → Nat} {S : Nat → Int32} {p : Nat × Nat} (hs : stM v S) (hv : stK v) (h1 : p.1 < 512) (h2 : 40 ≤ p.2) (h3 : p.2 < 2404) : f_X8_flowOf (nI (enc p)) S = some (nI (flm v p.2)) := by
  have e1 := r_kindOf (p := p) h1 (by omega)
  have e2 := r_gapOf (p := p) h1 (by omega)
  have hh := hdn_le hv (p.2 % 2)
  have hg : 10 ≤ p.2 / 4 ∧ p.2 / 4 < 2 ^ 20 := by omega
  have ei : S (10 + p.2 % 2) = nI (hdn v (p.2 % 2)) := by
    unfold hdn
    rcases Nat.mod_two_eq_zero_or_one p.2 with q | q
    · rw [q, if_pos rfl]; exact hs 3 (by decide)
    · rw [q, if_neg (by decide)]; exact hs 4 (by decide)
  have hk : p.2 % 2 < 2 := Nat.mod_lt _ (by decide)
  unfold flm fw
  generalize p.2 % 2 = k at e1 hh ei hk ⊢
  generalize p.2 / 4 = g at e2 hg ⊢
  rw [f_X8_flowOf, e1, Option.bind_some, e2, fa_lit 10, nI_add, gd_t (nI_in (by omega) (by decide)), Option.bind_some, gd_t (nI_ne0 (by omega) (by omega)), v_cl (by omega), ei, fa_lit 1000, pk_mul, pk_div (by omega) (by omega) (by omega), if_neg (by omega)]
theorem r_time_L {v : Nat → Nat} {L : List (Nat × Nat)} {S : Nat → Int32} (h : rwM 145 L S) (hs : stM v S) (hv : stK v) (hok : okR L) (hmk : mkK L) (hT : tot L ≤ 400) (h0 : 0 < tot L) : ∀ (m i s fuel : Nat) (Lr : List (Nat × Nat)), Lr.length = m → i + m = L.length → (∀ k : Nat, k < m → lk Lr k = lk L (i + k)) → m < fuel → s + sumF v Lr ≤ 400 * 30000 → f_X8_timeNow_L4 S fuel (nI s) (nI i) = some (nI ((s + sumF v Lr) / tot L)) := by
  have hlen := len_tot hok
  have hokP := okP_of hok (by omega)
  have eb : f_X8_amounts (145 : Int32) (146 : Int32) S = some (nI (tot L)) := r_amounts (b := 145) h hokP (by omega)
  intro m
  induction m with
  | zero =>
    intro i s fuel Lr hL hi hk hf hb
    obtain ⟨fu, rfl⟩ : ∃ fu, fuel = fu + 1 := ⟨fuel - 1, by omega⟩
    have hL0 : Lr = [] := List.length_eq_zero_iff.mp hL
    subst hL0
    rw [f_X8_timeNow_L4, c145, h.1, if_pos (nI_le (by omega) (by omega)), eb, Option.bind_some, gd_t (nI_ne0 h0 (by omega))]
    simp only [sumF] at hb ⊢
    rw [pk_div (by omega) h0 (by omega), Nat.add_zero]
  | succ m ih =>
    intro i s fuel Lr hL hi hk hf hb
    obtain ⟨fu, rfl⟩ : ∃ fu, fuel = fu + 1 := ⟨fuel - 1, by omega⟩
    match Lr, hL with
    | p :: Lr, hL =>
      simp only [List.length_cons] at hL
      have h1 := hk 0 (by omega)
      rw [lk_0, Nat.add_zero] at h1
      have hp := hokP (lk L i) (lk_m (by omega))
      have hq := hmk (lk L i) (lk_m (by omega))
      have ih' := ih (i + 1) (s + p.1 * flm v p.2) fu Lr (by omega) (by omega) (fun k q => by
        have := hk (k + 1) (by omega)
        rw [lk_s] at this
        rw [this, show i + (k + 1) = i + 1 + k by omega]) (by omega) (by simp only [sumF] at hb; omega)
      have hg := nI_in (c := 146 + i) (N := 631) (by omega) (by decide)
      have hg' : ¬ (nI (146 + i) < 0 ∨ 631 ≤ 146 + i) := by
        have := hg
        rw [v_cl (by omega)] at this
        exact this
      rw [f_X8_timeNow_L4, c145, h.1, if_neg (nI_ge (by omega) (by omega)), fa_lit 146, nI_add, gd_t hg, v_cl (by omega), show S (146 + i) = nI (enc (lk L i)) from h.2 i (by omega), r_amountOf hp.2.1 hp.2.2, Option.bind_some, gd_t hg', r_flowOf hs hv hp.2.1 hq.1 hq.2, Option.bind_some, lt_v, lt_v, ← h1, pk_mul, nI_add, nI_1, ih']
      simp only [sumF, Nat.add_assoc]
theorem r_time {v : Nat → Nat} {L : List (Nat × Nat)} {S : Nat → Int32} (h : rwM 145 L S) (hs : stM v S) (hv : stK v) (hok : okR L) (hmk : mkK L) (hT : tot L ≤ 400) (h0 : 0 < tot L) : f_X8_timeNow S = some (nI (timeS v L)) := by
  have hlen := len_tot hok
  have hb := sumF_le hv L
  have := r_time_L h hs hv hok hmk hT h0 L.length 0 0 FU L rfl (by omega) (fun k _ => by rw [Nat.zero_add]) (by show _ < 20000; omega) (by omega)
  rw [Nat.zero_add] at this
  exact this
theorem sIf {b : Nat → Bool} {p : Nat × Nat} {k : Nat} (hk : k = 0 ∨ k = 1) (h : b p.2 = (k == 1)) (L : List (Nat × Nat)) : sumIf b (p :: L) = k * p.1 + sumIf b L := by
  show (if b p.2 = true then p.1 else 0) + sumIf b L = k * p.1 + sumIf b L
  rw [h]
  rcases hk with rfl | rfl
  · simp
  · simp
theorem r_L42 {L : List (Nat × Nat)} {S P : Nat → Int32} {runs pasts y1 : Int32} {T : Nat} (h : rwM 145 L S) (hok : okP L) (hlen : L.length ≤ 400) (hT : T ≤ 400) : ∀ (m i s1 s2 fuel : Nat) (Lr : List (Nat × Nat)), Lr.length = m → i + m = L.length → (∀ k : Nat, k < m → lk Lr k = lk L (i + k)) → m < fuel → s2 + sumIf isB Lr ≤ 400 → f_X8_shot_L42 runs y1 (nI T) fuel (nI s1) (nI s2) (nI i) S P pasts = f_X8_shot_J117 runs y1 (nI T) (nI (s1 + sumIf isK Lr)) (nI (if T < 2 * (s2 + sumIf isB Lr) then 1 else 0)) S P pasts := by
  intro m
  induction m with
  | zero =>
    intro i s1 s2 fuel Lr hL hi hk hf hb
    obtain ⟨fu, rfl⟩ : ∃ fu, fuel = fu + 1 := ⟨fuel - 1, by omega⟩
    have hL0 : Lr = [] := List.length_eq_zero_iff.mp hL
    subst hL0
    have e2 : sumIf isB [] = 0 := rfl
    have e1 : sumIf isK [] = 0 := rfl
    rw [e2] at hb ⊢
    rw [f_X8_shot_L42, c145, h.1, if_pos (nI_le (by omega) (by omega)), fa_lit 2, pk_mul, e1, Nat.add_zero, Nat.add_zero]
    by_cases c : T < 2 * s2
    · rw [if_neg (nI_ge c (by omega)), if_pos c]; rfl
    · rw [if_pos (nI_le (by omega) (by omega)), if_neg c]; rfl
  | succ m ih =>
    intro i s1 s2 fuel Lr hL hi hk hf hb
    obtain ⟨fu, rfl⟩ : ∃ fu, fuel = fu + 1 := ⟨fuel - 1, by omega⟩
    match Lr, hL with
    | p :: Lr, hL =>
      simp only [List.length_cons] at hL
      have h1 := hk 0 (by omega)
      rw [lk_0, Nat.add_zero] at h1
      have hp := hok (lk L i) (lk_m (by omega))
      rw [← h1] at hp
      have eK := sIf (b := isK) (p := p) (Nat.mod_two_eq_zero_or_one p.2) rfl Lr
      have eB := sIf (b := isB) (p := p) (Nat.mod_two_eq_zero_or_one (p.2 / 2)) rfl Lr
      rw [eB] at hb
      have ih' := ih (i + 1) (s1 + p.2 % 2 * p.1) (s2 + p.2 / 2 % 2 * p.1) fu Lr (by omega) (by omega) (fun k q => by
        have := hk (k + 1) (by omega)
        rw [lk_s] at this
        rw [this, show i + (k + 1) = i + 1 + k by omega]) (by omega) (by omega)
      have hg := nI_in (c := 146 + i) (N := 631) (by omega) (by decide)
      rw [f_X8_shot_L42, c145, h.1, if_neg (nI_ge (by omega) (by omega)), fa_lit 146, nI_add, gd_t hg, v_cl (by omega), show S (146 + i) = nI (enc p) from (h.2 i (by omega)).trans (by rw [h1]), lt_v, r_kindOf hp.2.1 hp.2.2, Option.bind_some, r_amountOf hp.2.1 hp.2.2, Option.bind_some, lt_v, r_burrIn hp.2.1 hp.2.2, Option.bind_some, Option.bind_some, lt_v, lt_v, pk_mul, pk_mul, nI_add, nI_add, nI_1, ih', eK, eB, Nat.add_assoc, Nat.add_assoc]
theorem r_L123 {runs y1 y2 y3 y5 pasts : Int32} {P : Nat → Int32} : ∀ (m fuel : Nat) (S : Nat → Int32), m ≤ 77 → m < fuel → ∃ S', f_X8_shot_L123 runs y1 y2 y3 y5 fuel (nI (m + 6)) S P pasts = f_X8_shot_L123 runs y1 y2 y3 y5 1 (nI 6) S' P pasts ∧ (∀ k, 7 ≤ k → k ≤ m + 6 → S' (547 + k) = S (547 + k - 7)) ∧ ∀ i, (i < 554 ∨ 547 + m + 6 < i) → S' i = S i := by
  intro m
  induction m with
  | zero =>
    intro fuel S hm hf
    obtain ⟨fu, rfl⟩ : ∃ fu, fuel = fu + 1 := ⟨fuel - 1, by omega⟩
    refine ⟨S, ?_, fun k h1 h2 => absurd h2 (by omega), fun i _ => rfl⟩
    have c : nI (0 + 6) < (7 : Int32) := by decide
    have c' : nI 6 < (7 : Int32) := by decide
    rw [f_X8_shot_L123, if_pos c, f_X8_shot_L123, if_pos c']
  | succ m ih =>
    intro fuel S hm hf
    obtain ⟨fu, rfl⟩ : ∃ fu, fuel = fu + 1 := ⟨fuel - 1, by omega⟩
    obtain ⟨S', a1, a2, a3⟩ := ih fu (upd S (547 + (m + 7)) (S (547 + m))) (by omega) (by omega)
    refine ⟨S', ?_, ?_, ?_⟩
    · have c : ¬ nI (m + 1 + 6) < (7 : Int32) := nI_nlt (a := m + 1 + 6) (b := 7) (by omega) (by omega)
      rw [f_X8_shot_L123, if_neg c, show m + 1 + 6 = m + 6 + 1 by omega, pk_m1, fa_lit 547, fa_lit 7, nI_add, pk_sub (by omega), gd_t (nI_in (by omega) (by decide)), lt_v, gd_t (nI_in (by omega) (by decide)), lt_v, lt_v, v_cl (by omega), v_cl (by omega), show 547 + (m + 6 + 1) - 7 = 547 + m by omega, show 547 + (m + 6 + 1) = 547 + (m + 7) by omega, a1]
    · intro k h1 h2
      by_cases e : k = m + 7
      · subst e
        rw [a3 _ (Or.inr (by omega)), pk_us]
        congr 1
      · rw [a2 k h1 (by omega), pk_un (by omega)]
    · intro i hi
      rw [a3 i (by omega), pk_un (by omega)]
theorem r_away {t g : Nat} {S : Nat → Int32} (h : S 7 = nI g) (ht : t < 2 ^ 30) (hg : g < 2 ^ 30) : f_X8_away (nI t) S = some (nI (aw t g)) := by
  have c7 : (7 : Int32).toNatClampNeg = 7 := rfl
  have := p_absI (a := t) (b := g) ht hg
  rw [f_X8_away, c7, h, lt_v, ← this]
  by_cases q : 0 ≤ nI t - nI g
  · rw [if_pos q, if_pos q]
  · rw [if_neg q, if_neg q, Int32.zero_sub]
theorem aw_le {t g : Nat} (ht : t ≤ 30000) (hg : g ≤ 600) : aw t g ≤ 30000 := by
  unfold aw
  split <;> omega
/-- the burrs behind a shot by burr b, ahead of its seconds -/
def jB0 (v : Nat → Nat) (t b : Nat) (b0 : Bu) : Bu := if b = 0 then buJ v t b0 else b0
def jB1 (v : Nat → Nat) (t b : Nat) (b1 : Bu) : Bu := if b = 0 then b1 else buJ v t b1
theorem r_J330 {v : Nat → Nat} {t b : Nat} {b0 b1 : Bu} {C P : Nat → Int32} {runs pasts : Int32} (z0 : Int32) (h0 : buM 13 b0 C) (h1 : buM 17 b1 C) (hs : stM v C) (hv : stK v) (ht : t ≤ 30000) (hb : b < 2) (k0 : buK b0) (k1 : buK b1) :
    ∃ F, f_X8_shot_J330 runs (nI t) (nI b) z0 (C 6) (nI 6) C P pasts = f_X8_shot_J374 runs (nI t) F P pasts ∧ buM 13 (jB0 v t b b0) F ∧ buM 17 (jB1 v t b b1) F ∧ F 6 = C 6 + z0 ∧ F 145 = 0 ∧ ∀ i, i ≠ 6 → i ≠ 145 → (i < 13 ∨ 21 ≤ i) → F i = C i := by
  have c12 : (12 : Int32).toNatClampNeg = 12 := rfl
  have c8 : (8 : Int32).toNatClampNeg = 8 := rfl
  obtain ⟨v1, v2, v3, v4, v5, v6, v7, v8, v9⟩ := id hv
  generalize hE : upd (upd C 6 (C 6 + z0)) 145 (0 : Int32) = E
  have eE : ∀ i, i ≠ 6 → i ≠ 145 → E i = C i := fun i i1 i2 => by rw [← hE, pk_un i2, pk_un i1]
  have e6 : E 6 = C 6 + z0 := by rw [← hE, pk_un (by decide), pk_us]
  have e145 : E 145 = 0 := by rw [← hE, pk_us]
  have e12 : E 12 = nI (v 5) := (eE 12 (by decide) (by decide)).trans (hs 5 (by decide))
  have e8 : E 8 = nI (v 1) := (eE 8 (by decide) (by decide)).trans (hs 1 (by decide))
  have e7 : E 7 = nI (v 0) := (eE 7 (by decide) (by decide)).trans (hs 0 (by decide))
  have m0 : buM 13 b0 E := h0.of (fun i i1 i2 => eE i (by omega) (by omega))
  have m1 : buM 17 b1 E := h1.of (fun i i1 i2 => eE i (by omega) (by omega))
  have ha := aw_le ht v2
  have hno : (aw t (v 0) ≤ v 1 ∨ ¬ v 5 = 1) → buM 13 (jB0 v t b b0) E ∧ buM 17 (jB1 v t b b1) E := by
    intro q
    have hj : ∀ x : Bu, buJ v t x = x := fun x => by
      unfold buJ
      by_cases c : aw t (v 0) ≤ v 1
      · rw [if_pos c]
      · rw [if_neg c, if_neg (by rcases q with q | q; exact absurd q c; exact q)]
    unfold jB0 jB1
    rw [hj, hj]
    constructor
    · split <;> exact m0
    · split <;> exact m1
  rw [f_X8_shot_J330, lt_v, gd_t (nI_in (by decide) (by decide)), lt_v, lt_v, v_cl (by decide), c145, hE, c12, e12]
  by_cases c5 : v 5 = 1
  · rw [if_pos (by rw [c5]; rfl), r_away e7 (by omega) (by omega), Option.bind_some, c8, e8]
    by_cases c : aw t (v 0) ≤ v 1
    · rw [if_pos (nI_le c (by omega))]
      exact ⟨E, rfl, (hno (Or.inl c)).1, (hno (Or.inl c)).2, e6, e145, fun i i1 i2 _ => eE i i1 i2⟩
    · rw [if_neg (nI_ge (by omega) (by omega))]
      have hj : ∀ x : Bu, buJ v t x = buX x t (v 0) := fun x => by
        unfold buJ
        rw [if_neg c, if_pos c5]
      rcases (show b = 0 ∨ b = 1 by omega) with rfl | rfl
      · obtain ⟨F, a1, a2, a3⟩ := r_corrects (b := 0) (x := b0) (t := t) (g := v 0) (by decide) k0 m0 e7 v1 v2 ht
        rw [a1, Option.bind_some]
        refine ⟨F, rfl, ?_, ?_, (a3 6 (by decide) (by decide)).trans e6, (a3 145 (by decide) (by decide)).trans e145, fun i i1 i2 i3 => (a3 i (by omega) (by omega)).trans (eE i i1 i2)⟩
        · show buM 13 (buJ v t b0) F
          rw [hj]; exact a2
        · exact m1.of (fun i i1 i2 => a3 i (by omega) (by omega))
      · obtain ⟨F, a1, a2, a3⟩ := r_corrects (b := 1) (x := b1) (t := t) (g := v 0) (by decide) k1 m1 e7 v1 v2 ht
        rw [a1, Option.bind_some]
        refine ⟨F, rfl, ?_, ?_, (a3 6 (by decide) (by decide)).trans e6, (a3 145 (by decide) (by decide)).trans e145, fun i i1 i2 i3 => (a3 i (by omega) (by omega)).trans (eE i i1 i2)⟩
        · exact m0.of (fun i i1 i2 => a3 i (by omega) (by omega))
        · show buM 17 (buJ v t b1) F
          rw [hj]; exact a2
  · rw [if_neg (show ¬ nI (v 5) = (1 : Int32) from fun q => c5 ((nI_eq (b := 1) (by omega) (by decide)).mp q))]
    exact ⟨E, rfl, (hno (Or.inr c5)).1, (hno (Or.inr c5)).2, e6, e145, fun i i1 i2 _ => eE i i1 i2⟩
theorem r_shotE {v : Nat → Nat} {t a b kd s1 se n K : Nat} {b0 b1 : Bu} {T P : Nat → Int32} {runs pasts : Int32} (h0 : buM 13 b0 T) (h1 : buM 17 b1 T) (hs : stM v T) (hv : stK v) (ht : t ≤ 30000) (hb : b < 2) (k0 : buK b0) (k1 : buK b1) (ha : a ≤ 400) (hs1 : s1 ≤ 400) (hkd : kd = if a < 2 * s1 then 1 else 0) (e0 : T 0 = nI se) (e145 : T 145 = nI n) (e546 : T 546 = nI K) (hK : K ≤ 12) :
    ∃ F, f_X8_shot_L123 runs (nI t) (nI a) (nI s1) (nI b) 1 (nI 6) T P pasts = f_X8_shot_J374 runs (nI t) F P pasts ∧ buM 13 (jB0 v t b b0) F ∧ buM 17 (jB1 v t b b1) F ∧ F 6 = nrJ v t (T 6) ∧ F 145 = 0 ∧ F 546 = nI (min 12 (K + 1)) ∧ F 5 = T 5 + 1 ∧ F 3 = T 3 + nI a ∧ (F 547 = T 5 ∧ F 548 = nI t ∧ F 549 = nI a ∧ F 550 = nI b ∧ F 551 = nI kd ∧ F 552 = nI se ∧ F 553 = nI n) ∧ ∀ i, i ≠ 3 → i ≠ 5 → i ≠ 6 → i ≠ 145 → (i < 13 ∨ 21 ≤ i) → (i < 546 ∨ 554 ≤ i) → F i = T i := by
  have d0 : (0 : Int32).toNatClampNeg = 0 := rfl
  have d3 : (3 : Int32).toNatClampNeg = 3 := rfl
  have d5 : (5 : Int32).toNatClampNeg = 5 := rfl
  have d6 : (6 : Int32).toNatClampNeg = 6 := rfl
  have d8 : (8 : Int32).toNatClampNeg = 8 := rfl
  have d546 : (546 : Int32).toNatClampNeg = 546 := rfl
  have d547 : (547 : Int32).toNatClampNeg = 547 := rfl
  have d548 : (548 : Int32).toNatClampNeg = 548 := rfl
  have d549 : (549 : Int32).toNatClampNeg = 549 := rfl
  have d550 : (550 : Int32).toNatClampNeg = 550 := rfl
  have d552 : (552 : Int32).toNatClampNeg = 552 := rfl
  have d553 : (553 : Int32).toNatClampNeg = 553 := rfl
  obtain ⟨v1, v2, v3, v4, v5, v6, v7, v8, v9⟩ := id hv
  have haw := aw_le ht v2
  generalize hA : upd (upd (upd (upd T 547 (T 5)) 548 (nI t)) 549 (nI a)) 550 (nI b) = A
  have eA : ∀ i, (i < 547 ∨ 551 ≤ i) → A i = T i := fun i hi => by rw [← hA, pk_un (by omega), pk_un (by omega), pk_un (by omega), pk_un (by omega)]
  have A547 : A 547 = T 5 := by rw [← hA, pk_un (by decide), pk_un (by decide), pk_un (by decide), pk_us]
  have A548 : A 548 = nI t := by rw [← hA, pk_un (by decide), pk_un (by decide), pk_us]
  have A549 : A 549 = nI a := by rw [← hA, pk_un (by decide), pk_us]
  have A550 : A 550 = nI b := by rw [← hA, pk_us]
  have stA : f_X8_shot_L123 runs (nI t) (nI a) (nI s1) (nI b) 1 (nI 6) T P pasts = f_X8_shot_J222 runs (nI t) (nI a) (nI b) (nI kd) (nI 551) A P pasts := by
    rw [f_X8_shot_L123, if_pos (by decide)]
    simp only [lt_v, d5, d547, d548, d549, d550]
    rw [hA, fa_lit 2, pk_mul, hkd]
    by_cases c : a < 2 * s1
    · rw [if_neg (nI_ge c (by omega)), if_pos c]; rfl
    · rw [if_pos (nI_le (by omega) (by omega)), if_neg c]; rfl
  generalize hG : upd (upd (upd A 551 (nI kd)) 552 (nI se)) 553 (nI n) = G
  have eG : ∀ i, (i < 551 ∨ 554 ≤ i) → G i = A i := fun i hi => by rw [← hG, pk_un (by omega), pk_un (by omega), pk_un (by omega)]
  have G551 : G 551 = nI kd := by rw [← hG, pk_un (by decide), pk_un (by decide), pk_us]
  have G552 : G 552 = nI se := by rw [← hG, pk_un (by decide), pk_us]
  have G553 : G 553 = nI n := by rw [← hG, pk_us]
  have G546 : G 546 = nI K := (eG 546 (by decide)).trans ((eA 546 (by decide)).trans e546)
  generalize hz : (if 12 ≤ K then 0 else 1) = z
  have hKz : K + z = min 12 (K + 1) := by rw [← hz]; split <;> omega
  have stB : f_X8_shot_J222 runs (nI t) (nI a) (nI b) (nI kd) (nI 551) A P pasts = f_X8_shot_J280 runs (nI t) (nI a) (nI b) (nI z) (nI K) (nI 546) G P pasts := by
    have u0 : upd A 551 (nI kd) 0 = nI se := (pk_un (by decide)).trans ((eA 0 (by decide)).trans e0)
    have u145 : upd (upd A 551 (nI kd)) 552 (nI se) 145 = nI n := (pk_un (by decide)).trans ((pk_un (by decide)).trans ((eA 145 (by decide)).trans e145))
    rw [f_X8_shot_J222, gd_t (nI_in (by decide) (by decide)), v_cl (by decide)]
    simp only [lt_v, d0, d552, d553, d546, c145]
    rw [u0, u145, hG, G546, fa_lit 12, ← hz]
    by_cases c : 12 ≤ K
    · rw [if_pos (nI_le c (by omega)), if_pos c]; rfl
    · rw [if_neg (nI_ge (by omega) (by decide)), if_neg c]; rfl
  generalize hC : upd (upd (upd G 546 (nI (K + z))) 5 (G 5 + 1)) 3 (G 3 + nI a) = C
  have eC : ∀ i, i ≠ 546 → i ≠ 5 → i ≠ 3 → C i = G i := fun i i1 i2 i3 => by rw [← hC, pk_un i3, pk_un i2, pk_un i1]
  have C546 : C 546 = nI (K + z) := by rw [← hC, pk_un (by decide), pk_un (by decide), pk_us]
  have C5 : C 5 = G 5 + 1 := by rw [← hC, pk_un (by decide), pk_us]
  have C3 : C 3 = G 3 + nI a := by rw [← hC, pk_us]
  have far : ∀ i, i ≠ 5 → i ≠ 3 → (i < 546 ∨ 554 ≤ i) → C i = T i := fun i i1 i2 i3 => (eC i (by omega) i1 i2).trans ((eG i (by omega)).trans (eA i (by omega)))
  have C7 : C 7 = nI (v 0) := (far 7 (by decide) (by decide) (by decide)).trans (hs 0 (by decide))
  have C8 : C 8 = nI (v 1) := (far 8 (by decide) (by decide) (by decide)).trans (hs 1 (by decide))
  have C6 : C 6 = T 6 := far 6 (by decide) (by decide) (by decide)
  obtain ⟨F, f1, f2, f3, f4, f5, f6⟩ := r_J330 (runs := runs) (P := P) (pasts := pasts) (C := C) (v := v) (t := t) (b := b) (b0 := b0) (b1 := b1) (if aw t (v 0) ≤ v 1 then 1 else 0) (h0.of (fun i i1 i2 => far i (by omega) (by omega) (by omega))) (h1.of (fun i i1 i2 => far i (by omega) (by omega) (by omega))) (hs.of (fun i i1 i2 => far i (by omega) (by omega) (by omega))) hv ht hb k0 k1
  have stC : f_X8_shot_J280 runs (nI t) (nI a) (nI b) (nI z) (nI K) (nI 546) G P pasts = f_X8_shot_J330 runs (nI t) (nI b) (if aw t (v 0) ≤ v 1 then 1 else 0) (C 6) (nI 6) C P pasts := by
    have u5 : upd G 546 (nI (K + z)) 5 = G 5 := pk_un (by decide)
    have u3 : upd (upd G 546 (nI (K + z))) 5 (G 5 + 1) 3 = G 3 := (pk_un (by decide)).trans (pk_un (by decide))
    rw [f_X8_shot_J280, lt_v, nI_add, gd_t (nI_in (by decide) (by decide)), v_cl (by decide)]
    simp only [lt_v, d3, d5, d6, d8]
    rw [u5, u3, hC, r_away C7 (by omega) (by omega), Option.bind_some, C8]
    by_cases c : aw t (v 0) ≤ v 1
    · rw [if_neg (nI_nlt c (by omega)), if_pos c]; rfl
    · rw [if_pos (nI_lt (by omega) (by omega)), if_neg c]; rfl
  have G5 : G 5 = T 5 := (eG 5 (by decide)).trans (eA 5 (by decide))
  have G3 : G 3 = T 3 := (eG 3 (by decide)).trans (eA 3 (by decide))
  refine ⟨F, stA.trans (stB.trans (stC.trans f1)), f2, f3, ?_, f5, ?_, ?_, ?_, ⟨?_, ?_, ?_, ?_, ?_, ?_, ?_⟩, ?_⟩
  · rw [f4, C6]
    unfold nrJ
    split
    · rfl
    · exact Int32.add_zero _
  · rw [f6 546 (by decide) (by decide) (by decide), C546, hKz]
  · rw [f6 5 (by decide) (by decide) (by decide), C5, G5]
  · rw [f6 3 (by decide) (by decide) (by decide), C3, G3]
  · rw [f6 547 (by decide) (by decide) (by decide), eC 547 (by decide) (by decide) (by decide), eG 547 (by decide), A547]
  · rw [f6 548 (by decide) (by decide) (by decide), eC 548 (by decide) (by decide) (by decide), eG 548 (by decide), A548]
  · rw [f6 549 (by decide) (by decide) (by decide), eC 549 (by decide) (by decide) (by decide), eG 549 (by decide), A549]
  · rw [f6 550 (by decide) (by decide) (by decide), eC 550 (by decide) (by decide) (by decide), eG 550 (by decide), A550]
  · rw [f6 551 (by decide) (by decide) (by decide), eC 551 (by decide) (by decide) (by decide), G551]
  · rw [f6 552 (by decide) (by decide) (by decide), eC 552 (by decide) (by decide) (by decide), G552]
  · rw [f6 553 (by decide) (by decide) (by decide), eC 553 (by decide) (by decide) (by decide), G553]
  · intro i i1 i2 i3 i4 i5 i6
    rw [f6 i i3 i4 i5, far i i2 i1 i6]
theorem r_shot {σ : Sp} {hs : List Sp} {B : Nat} {S P : Nat → Int32} {pasts runs : Int32} (h : PR hs P pasts) (hm : MR σ S) (hk : KK σ B) (hK : KH hs B) (hB : B < 2 ^ 28) (hr : runs = 0 ∨ runs = 1) : ∃ R, f_X8_shot S P pasts runs = some R ∧ RC σ (o_shot σ) hs (a_shot (v_st σ) (v_ba σ)) S P pasts runs R := by
  obtain ⟨P', pasts', q1, q2, q3⟩ := r_chg h hm hk hK hr
  obtain ⟨m1, m2, m3, m4, m5, m6, m7, m8, m9, m10, m11, m12, m13, m14⟩ := hm
  obtain ⟨k1, k2, k3, k4, k5, k6, k7, k8, k9, k10, k11, k12, k13, k14⟩ := hk
  have l1 := len_tot k5
  have l2 := len_tot k8
  have hokP := okP_of k8 (by omega)
  unfold a_shot
  rw [f_X8_shot, c145, m5.1]
  by_cases c : tot (v_ba σ) = 0
  · have : (v_ba σ).length = 0 := by omega
    rw [this, if_pos nI_0, if_pos c]
    exact ⟨_, rfl, RC_neg ltB⟩
  · have hne : (v_ba σ).length ≠ 0 := by
      intro q
      exact c (by rw [List.length_eq_zero_iff.mp q]; rfl)
    have eb : f_X8_amounts (145 : Int32) (146 : Int32) S = some (nI (tot (v_ba σ))) := r_amounts (b := 145) m5 hokP (by omega)
    have ht := timeS_le k13 (v_ba σ)
    have sB := sumIf_le isB (v_ba σ)
    have sK := sumIf_le isK (v_ba σ)
    have e42 := r_L42 (runs := runs) (y1 := nI (timeS (v_st σ) (v_ba σ))) (P := P') (pasts := pasts') (T := tot (v_ba σ)) m5 hokP (by omega) (by omega) (v_ba σ).length 0 0 0 FU (v_ba σ) rfl (by omega) (fun k _ => by rw [Nat.zero_add]) (by show _ < 20000; omega) (by omega)
    rw [Nat.zero_add, Nat.zero_add] at e42
    have hmo : (if tot (v_ba σ) < 2 * sumIf isB (v_ba σ) then 1 else 0) = mostly isB (v_ba σ) := rfl
    rw [hmo] at e42
    obtain ⟨T, t1, t2, t3⟩ := r_L123 (runs := runs) (y1 := nI (timeS (v_st σ) (v_ba σ))) (y2 := nI (tot (v_ba σ))) (y3 := nI (sumIf isK (v_ba σ))) (y5 := nI (mostly isB (v_ba σ))) (P := P') (pasts := pasts') 77 FU S (by decide) (by show 77 < 20000; omega)
    have tS : ∀ i, i < 554 → T i = S i := fun i hi => t3 i (Or.inl hi)
    obtain ⟨F, f1, f2, f3, f4, f5, f6, f7, f8, f9, f10⟩ := r_shotE (runs := runs) (P := P') (pasts := pasts') (v := v_st σ) (t := timeS (v_st σ) (v_ba σ)) (a := tot (v_ba σ)) (b := mostly isB (v_ba σ)) (kd := mostly isK (v_ba σ)) (s1 := sumIf isK (v_ba σ)) (se := v_se σ) (n := (v_ba σ).length) (K := (v_K σ).length) (T := T) (m2.of (fun i i1 i2 => tS i (by omega))) (m3.of (fun i i1 i2 => tS i (by omega))) (m8.of (fun i i1 i2 => tS i (by omega))) k13 ht (mostly_lt _ _) k11 k12 (by omega) (by omega) rfl ((tS 0 (by decide)).trans m9) ((tS 145 (by decide)).trans m5.1) ((tS 546 (by decide)).trans m6.1) m6.2.1
    have hw0 : (jB0 (v_st σ) (timeS (v_st σ) (v_ba σ)) (mostly isB (v_ba σ)) (v_b0 σ)).2.1 ≤ 300 := by
      unfold jB0
      split
      · rw [buJ_w]; exact k11.2.2
      · exact k11.2.2
    have hw1 : (jB1 (v_st σ) (timeS (v_st σ) (v_ba σ)) (mostly isB (v_ba σ)) (v_b1 σ)).2.1 ≤ 300 := by
      unfold jB1
      split
      · exact k12.2.2
      · rw [buJ_w]; exact k12.2.2
    have F0 : F 0 = nI (v_se σ) := (f10 0 (by decide) (by decide) (by decide) (by decide) (by decide) (by decide)).trans ((tS 0 (by decide)).trans m9)
    obtain ⟨S2, p1, p2, p3, p4, p5⟩ := r_passes (n := timeS (v_st σ) (v_ba σ) / 10) (by omega) F0 f2.2.1 f3.2.1 (by omega) hw0 hw1
    have hdiv : nI (timeS (v_st σ) (v_ba σ)) / (10 : Int32) = nI (timeS (v_st σ) (v_ba σ) / 10) := by rw [fa_lit 10, pk_div (by omega) (by decide) (by decide)]
    rw [if_neg (nI_ne0 (by omega) (by omega)), if_neg c, q1, Option.bind_some, r_time m5 m8 k13 k8 k9 k10 (by omega), Option.bind_some, eb, Option.bind_some]
    have e42' : f_X8_shot_L42 runs (nI (timeS (v_st σ) (v_ba σ))) (nI (tot (v_ba σ))) FU 0 0 0 S P' pasts' = f_X8_shot_J117 runs (nI (timeS (v_st σ) (v_ba σ))) (nI (tot (v_ba σ))) (nI (sumIf isK (v_ba σ))) (nI (mostly isB (v_ba σ))) S P' pasts' := e42
    have t1' : f_X8_shot_L123 runs (nI (timeS (v_st σ) (v_ba σ))) (nI (tot (v_ba σ))) (nI (sumIf isK (v_ba σ))) (nI (mostly isB (v_ba σ))) FU 83 S P' pasts' = _ := t1
    rw [e42', f_X8_shot_J117, t1', f1, f_X8_shot_J374, hdiv, p1, Option.bind_some, if_pos (nI_pos' (by omega))]
    have far : ∀ i, i ≠ 0 → i ≠ 3 → i ≠ 5 → i ≠ 6 → i ≠ 145 → (i < 13 ∨ 21 ≤ i) → i < 546 → S2 i = S i := fun i i0 i1 i2 i3 i4 i5 i6 => (p5 i i0 (by omega) (by omega)).trans ((f10 i i1 i2 i3 i4 i5 (Or.inl i6)).trans (tS i (by omega)))
    have sh : ∀ i, 546 ≤ i → S2 i = F i := fun i hi => p5 i (by omega) (by omega) (by omega)
    have old : ∀ k j, k < 11 → j < 7 → S2 (547 + 7 * (k + 1) + j) = S (547 + 7 * k + j) := fun k j hk hj => by
      rw [sh _ (by omega), f10 _ (by omega) (by omega) (by omega) (by omega) (by omega) (by omega), show 547 + 7 * (k + 1) + j = 547 + (7 * (k + 1) + j) by omega, t2 _ (by omega) (by omega)]
      exact congrArg S (by omega)
    have hlen : ((shotN (v_st σ) (v_ba σ) (v_mk σ) (v_se σ) :: v_K σ).take 12).length = min 12 ((v_K σ).length + 1) := by rw [List.length_take]; rfl
    have hM : MR (o_shot σ) S2 := by
      refine ⟨m1.of k4 (fun i i1 i2 => far i (by omega) (by omega) (by omega) (by omega) (by omega) (by omega) (by omega)), ⟨?_, p3, ?_, ?_⟩, ⟨?_, p4, ?_, ?_⟩, m4.of (n := 100) (by omega) (fun i i1 i2 => far i (by omega) (by omega) (by omega) (by omega) (by omega) (by omega) (by omega)), ⟨(p5 145 (by decide) (by decide) (by decide)).trans f5, fun k q => absurd q (Nat.not_lt_zero k)⟩, ⟨?_, ?_, ?_, ?_⟩, ?_, m8.of (fun i i1 i2 => far i (by omega) (by omega) (by omega) (by omega) (by omega) (by omega) (by omega)), p2, (far 1 (by decide) (by decide) (by decide) (by decide) (by decide) (by decide) (by decide)).trans m10, (far 2 (by decide) (by decide) (by decide) (by decide) (by decide) (by decide) (by decide)).trans m11, ?_, (far 4 (by decide) (by decide) (by decide) (by decide) (by decide) (by decide) (by decide)).trans m13, ?_⟩
      · exact (p5 13 (by decide) (by decide) (by decide)).trans f2.1
      · exact (p5 15 (by decide) (by decide) (by decide)).trans f2.2.2.1
      · exact (p5 16 (by decide) (by decide) (by decide)).trans f2.2.2.2
      · exact (p5 17 (by decide) (by decide) (by decide)).trans f3.1
      · exact (p5 19 (by decide) (by decide) (by decide)).trans f3.2.2.1
      · exact (p5 20 (by decide) (by decide) (by decide)).trans f3.2.2.2
      · show S2 546 = nI ((shotN (v_st σ) (v_ba σ) (v_mk σ) (v_se σ) :: v_K σ).take 12).length
        rw [hlen, sh 546 (by decide), f6]
      · show ((shotN (v_st σ) (v_ba σ) (v_mk σ) (v_se σ) :: v_K σ).take 12).length ≤ 12
        rw [hlen]; omega
      · intro k hk
        have hk' : k < ((shotN (v_st σ) (v_ba σ) (v_mk σ) (v_se σ) :: v_K σ).take 12).length := hk
        rw [hlen] at hk'
        show (sk0 ((shotN (v_st σ) (v_ba σ) (v_mk σ) (v_se σ) :: v_K σ).take 12) k).2.1 ≤ 30000
        rw [sk0_t _ (by omega)]
        cases k with
        | zero => exact ht
        | succ k => rw [sk0_s]; exact m6.2.2.1 k (by omega)
      · intro k hk
        have hk' : k < ((shotN (v_st σ) (v_ba σ) (v_mk σ) (v_se σ) :: v_K σ).take 12).length := hk
        rw [hlen] at hk'
        show shG S2 (547 + 7 * k) (sk0 ((shotN (v_st σ) (v_ba σ) (v_mk σ) (v_se σ) :: v_K σ).take 12) k)
        rw [sk0_t _ (by omega)]
        cases k with
        | zero =>
          rw [sk0_0]
          obtain ⟨g1, g2, g3, g4, g5, g6, g7⟩ := f9
          exact ⟨(sh 547 (by decide)).trans (g1.trans ((tS 5 (by decide)).trans m7)), (sh 548 (by decide)).trans g2, (sh 549 (by decide)).trans g3, (sh 550 (by decide)).trans g4, (sh 551 (by decide)).trans g5, (sh 552 (by decide)).trans g6, (sh 553 (by decide)).trans g7⟩
        | succ k =>
          rw [sk0_s]
          obtain ⟨g1, g2, g3, g4, g5, g6, g7⟩ := m6.2.2.2 k (by omega)
          exact ⟨(old k 0 (by omega) (by decide)).trans g1, (old k 1 (by omega) (by decide)).trans g2, (old k 2 (by omega) (by decide)).trans g3, (old k 3 (by omega) (by decide)).trans g4, (old k 4 (by omega) (by decide)).trans g5, (old k 5 (by omega) (by decide)).trans g6, (old k 6 (by omega) (by decide)).trans g7⟩
      · exact (p5 5 (by decide) (by decide) (by decide)).trans (f7.trans (by rw [tS 5 (by decide), m7]; rfl))
      · exact (p5 3 (by decide) (by decide) (by decide)).trans (f8.trans (by rw [tS 3 (by decide), m12]; rfl))
      · exact (p5 6 (by decide) (by decide) (by decide)).trans (f4.trans (by rw [tS 6 (by decide), m14]; rfl))
    exact ⟨_, rfl, RC_pos (nI_nn (by omega)) hM q2 q3⟩
end
section
/-! queries: both sides answer alike -/
theorem v_le {x : Int32} {n : Nat} (h1 : ¬ x < 0) (h2 : ¬ nI n < x) : ∃ j : Nat, j ≤ n ∧ x = nI j := by
  obtain ⟨j, hj, rfl⟩ := nI_of h1
  exact ⟨j, Nat.not_lt.mp (fun q => h2 (nI_lt q hj)), rfl⟩
theorem rg_t {β : Type} {x n : Int32} {a b : β} (h : x < 0 ∨ n < x) : (if x < 0 then a else if x ≤ n then b else a) = a := by
  by_cases c : x < 0
  · rw [if_pos c]
  · rw [if_neg c, if_neg (Int32.not_le.mpr (by rcases h with h | h; exact absurd h c; exact h))]
theorem rg_f {β : Type} {x n : Int32} {a b : β} (h : ¬ (x < 0 ∨ n < x)) : (if x < 0 then a else if x ≤ n then b else a) = b := by
  rw [if_neg (fun q => h (Or.inl q)), if_pos (Int32.not_lt.mp (fun q => h (Or.inr q)))]
theorem n10 : ¬ (1 : Int32) = 0 := by decide
/-- what a burr tells -/
def tlB (b : Bu) (j : Nat) : Int32 := if j = 0 then nI b.1 else if j = 1 then nI b.2.1 else if j = 2 then nI (gp b.1 b.2.1) else if j = 3 then b.2.2.1 else b.2.2.2
theorem p_tellB {b : Bu} {d w g c : Int32} (h : buR b d w g c) (k : buK b) {j : Nat} (hj : j ≤ 4) : f_X0_tell (nI j) d w g c = some (tlB b j) := by
  obtain ⟨rfl, rfl, rfl, rfl⟩ := h
  rcases (show j = 0 ∨ j = 1 ∨ j = 2 ∨ j = 3 ∨ j = 4 by omega) with rfl | rfl | rfl | rfl | rfl
  · rfl
  · rfl
  · have e := p_gap (d := b.1) (w := b.2.1) (by have := k.2.1; omega) (by have := k.2.2; omega)
    rw [f_X0_tell, if_neg (by decide), if_neg (by decide), if_pos (by decide), e]
    rfl
  · rfl
  · rfl
theorem r_tellB {b : Nat} {x : Bu} {S : Nat → Int32} (hb : b < 2) (h : buM (13 + 4 * b) x S) (k : buK x) {j : Nat} (hj : j ≤ 4) : (if nI j = (2 : Int32) then (f_X8_gap (nI b) S).bind fun q7 => some q7 else (if (2 : Int32) ≤ nI j then f_X8_burrOf_J46 S (nI j - (1 : Int32)) (nI b) else f_X8_burrOf_J46 S (nI j) (nI b))) = some (tlB x j) := by
  rcases (show j = 0 ∨ j = 1 ∨ j = 2 ∨ j = 3 ∨ j = 4 by omega) with rfl | rfl | rfl | rfl | rfl
  · rw [if_neg (by decide), if_neg (by decide), f_X8_burrOf_J46, r_ofBurr hb (by decide), Option.bind_some, Nat.add_zero, h.1]
    rfl
  · rw [if_neg (by decide), if_neg (by decide), f_X8_burrOf_J46, r_ofBurr hb (by decide), Option.bind_some, h.2.1]
    rfl
  · rw [if_pos (by decide), r_gap hb h k]
    rfl
  · rw [if_neg (by decide), if_pos (by decide), show nI 3 - (1 : Int32) = nI 2 from nI_pred 2, f_X8_burrOf_J46, r_ofBurr hb (by decide), Option.bind_some, h.2.2.1]
    rfl
  · rw [if_neg (by decide), if_pos (by decide), show nI 4 - (1 : Int32) = nI 3 from nI_pred 3, f_X8_burrOf_J46, r_ofBurr hb (by decide), Option.bind_some, h.2.2.2]
    rfl
theorem q_burrOf {σ : Sp} {B nw : Nat} {S : Nat → Int32} {d0 w0 g0 c0 d1 w1 g1 c1 : Int32} (h0 : buR (v_b0 σ) d0 w0 g0 c0) (h1 : buR (v_b1 σ) d1 w1 g1 c1) (hm : MR σ S) (hk : KK σ B) (x1 x2 : Int32) : ∃ r, f_X7_burrOf x1 x2 nw d0 w0 g0 c0 d1 w1 g1 c1 = some r ∧ f_X8_burrOf x1 x2 S = some r := by
  have k11 := hk.2.2.2.2.2.2.2.2.2.2.1
  have k12 := hk.2.2.2.2.2.2.2.2.2.2.2.1
  rw [f_X7_burrOf, f_X8_burrOf, r_isOne]
  by_cases c1 : x1 = 0 ∨ x1 = 1
  · obtain ⟨b, hb, rfl⟩ := v01 c1
    rw [is01_t hb, if_pos c1, Option.bind_some, Option.bind_some, if_neg n10, if_neg n10, r_in, Option.bind_some]
    by_cases c2 : x2 < 0 ∨ (4 : Int32) < x2
    · rw [rg_t c2, if_pos c2, if_pos rfl]
      exact ⟨_, rfl, rfl⟩
    · rw [rg_f c2, if_neg c2, if_neg n10]
      obtain ⟨j, hj, rfl⟩ := v_le (n := 4) (fun q => c2 (Or.inl q)) (fun q => c2 (Or.inr q))
      rw [r_tellB hb (bs_M hm hb) (bsel_K b k11 k12) hj]
      refine ⟨_, ?_, rfl⟩
      rcases (show b = 0 ∨ b = 1 by omega) with rfl | rfl
      · rw [if_pos nI_0, p_tellB h0 k11 hj]; rfl
      · rw [if_neg (show ¬ nI 1 = 0 by decide), p_tellB h1 k12 hj]; rfl
  · rw [is01_f c1, if_neg c1, Option.bind_some, Option.bind_some, if_pos rfl, if_pos rfl]
    exact ⟨_, rfl, rfl⟩
theorem q_lotOf {σ : Sp} {B nw : Nat} {S pA pM : Nat → Int32} {pn pt : Int32} (h : rowR (v_lo σ) pA pM pn pt) (hm : MR σ S) (hk : KK σ B) (x1 x2 : Int32) : ∃ r, f_X7_lotOf x1 x2 nw pA pM pn = some r ∧ f_X8_lotOf x1 x2 S = some r := by
  have k4 := hk.2.2.2.1
  rw [f_X7_lotOf, f_X8_lotOf, r_isOne]
  by_cases c0 : x1 < 0
  · rw [if_pos c0, if_pos c0]
    exact ⟨_, rfl, rfl⟩
  · rw [if_neg c0, if_neg c0, Option.bind_some]
    obtain ⟨k, hkk, rfl⟩ := nI_of c0
    by_cases c2 : x2 = 0 ∨ x2 = 1
    · rw [rg_f (fun q => in01.mp q c2), if_pos c2, if_neg n10, f_X3_tell, if_neg c0, c21, hm.1.1, h.1]
      by_cases c3 : k < (v_lo σ).length
      · have hl := hm.1.2 k c3
        have e1 := p_amountAt (N := 6) h k4 (by decide) c3
        have e2 := p_markAt (N := 6) h k4 (by decide) c3
        rw [h.1] at e1 e2
        rw [if_pos (nI_lt c3 (by omega)), if_pos (nI_lt c3 (by omega)), e1, e2, Option.bind_some, Option.bind_some]
        rcases c2 with rfl | rfl
        · have ei : (22 : Int32) + (2 : Int32) * nI k + (0 : Int32) = nI (22 + 2 * k) := by rw [fa_lit 22, fa_lit 2, fa_lit 0, pk_mul, nI_add, nI_add, Nat.add_zero]
          rw [if_pos rfl, ei, gd_t (nI_in (by omega) (by decide)), v_cl (by omega), hl.1]
          exact ⟨_, rfl, rfl⟩
        · have ei : (22 : Int32) + (2 : Int32) * nI k + (1 : Int32) = nI (22 + 2 * k + 1) := by rw [fa_lit 22, fa_lit 2, fa_lit 1, pk_mul, nI_add, nI_add]
          rw [if_neg n10, ei, gd_t (nI_in (by omega) (by decide)), v_cl (by omega), hl.2]
          exact ⟨_, rfl, rfl⟩
      · rw [if_neg (nI_nlt (by omega) hkk), if_neg (nI_nlt (by omega) hkk)]
        exact ⟨_, rfl, rfl⟩
    · rw [rg_t (in01.mpr c2), if_neg c2, if_pos rfl]
      exact ⟨_, rfl, rfl⟩
/-- what is told of a portion -/
def tlP (v : Nat → Nat) (p : Nat × Nat) (j : Nat) : Int32 := if j = 0 then nI p.1 else if j = 1 then nI (p.2 % 2) else if j = 2 then nI (p.2 / 2 % 2) else if j = 3 then nI (p.2 / 4) else nI (flm v p.2)
theorem p_tellP {v : Nat → Nat} {st : Nat → Int32} {p : Nat × Nat} (hs : stR v st) (hv : stK v) (h : p.2 < 4096) {j : Nat} (hj : j ≤ 4) (a : Option Int32) (ha : a = some (nI p.1)) : (if nI j = 0 then a.bind (fun q4 => some q4) else (if nI j = 1 then (f_X7_kindOfMark (nI p.2)).bind fun q6 => some q6 else (if nI j = 2 then (f_X7_burrOfMark (nI p.2)).bind fun q8 => some q8 else (if nI j = 3 then (f_X7_gapOfMark (nI p.2)).bind fun q10 => some q10 else (f_X1_flowOfMark (nI p.2) st).bind fun q11 => some q11)))) = some (tlP v p j) := by
  have e1 := p_kindOf p.2
  have e2 := p_burrOf (m := p.2) (by omega)
  have e3 := p_gapOf (m := p.2) (by omega)
  have e4 := p_flowOfMark hs hv (m := p.2) (by omega)
  rw [e1, e2, e3, e4, ha]
  rcases (show j = 0 ∨ j = 1 ∨ j = 2 ∨ j = 3 ∨ j = 4 by omega) with rfl | rfl | rfl | rfl | rfl
  · rw [if_pos nI_0]; rfl
  · rw [if_neg (by decide), if_pos (by decide)]; rfl
  · rw [if_neg (by decide), if_neg (by decide), if_pos (by decide)]; rfl
  · rw [if_neg (by decide), if_neg (by decide), if_neg (by decide), if_pos (by decide)]; rfl
  · rw [if_neg (by decide), if_neg (by decide), if_neg (by decide), if_neg (by decide)]; rfl
theorem r_J63 {v : Nat → Nat} {S : Nat → Int32} {L : List (Nat × Nat)} {z k j : Nat} (h : rwM z L S) (hs : stM v S) (hv : stK v) (hok : okP L) (hmk : mkK L) (hk : k < L.length) (hz : z + 1 + L.length ≤ 631) (hj : j ≤ 4) : f_X8_portionOf_J63 S (nI k) (nI j) (nI (z + 1)) = some (tlP v (lk L k) j) := by
  have hp := hok (lk L k) (lk_m hk)
  have hq := hmk (lk L k) (lk_m hk)
  have e0 := r_amountOf hp.2.1 hp.2.2
  have e1 := r_kindOf hp.2.1 hp.2.2
  have e2 := r_burrIn hp.2.1 hp.2.2
  have e3 := r_gapOf hp.2.1 hp.2.2
  have e4 := r_flowOf hs hv hp.2.1 hq.1 hq.2
  rw [f_X8_portionOf_J63, nI_add, gd_t (nI_in (by omega) (by decide)), v_cl (by omega), h.2 k hk, lt_v, e0, e1, e2, e3, e4]
  rcases (show j = 0 ∨ j = 1 ∨ j = 2 ∨ j = 3 ∨ j = 4 by omega) with rfl | rfl | rfl | rfl | rfl
  · rw [if_pos nI_0]; rfl
  · rw [if_neg (by decide), if_pos (by decide)]; rfl
  · rw [if_neg (by decide), if_neg (by decide), if_pos (by decide)]; rfl
  · rw [if_neg (by decide), if_neg (by decide), if_neg (by decide), if_pos (by decide)]; rfl
  · rw [if_neg (by decide), if_neg (by decide), if_neg (by decide), if_neg (by decide)]; rfl
theorem q_portionOf {σ : Sp} {B nw : Nat} {S qA qM uA uM st : Nat → Int32} {qn qt un ut : Int32} (hq : rowR (v_ch σ) qA qM qn qt) (hu : rowR (v_ba σ) uA uM un ut) (hs : stR (v_st σ) st) (hm : MR σ S) (hk : KK σ B) (x1 x2 x3 : Int32) : ∃ r, f_X7_portionOf x1 x2 x3 nw qA qM qn uA uM un st = some r ∧ f_X8_portionOf x1 x2 x3 S = some r := by
  obtain ⟨m1, m2, m3, m4, m5, m6, m7, m8, m9, m10, m11, m12, m13, m14⟩ := hm
  obtain ⟨k1, k2, k3, k4, k5, k6, k7, k8, k9, k10, k11, k12, k13, k14⟩ := hk
  have l1 := len_tot k5
  have l2 := len_tot k8
  rw [f_X7_portionOf, f_X8_portionOf, r_isOne]
  by_cases c1 : x1 = 0 ∨ x1 = 1
  · obtain ⟨b, hb, rfl⟩ := v01 c1
    rw [is01_t hb, if_pos c1, Option.bind_some, Option.bind_some, if_neg n10, if_neg n10]
    by_cases c2 : x2 < 0
    · rw [if_pos c2, if_pos c2]
      exact ⟨_, rfl, rfl⟩
    · rw [if_neg c2, if_neg c2, r_in, Option.bind_some]
      obtain ⟨k, hkk, rfl⟩ := nI_of c2
      by_cases c3 : x3 < 0 ∨ (4 : Int32) < x3
      · rw [rg_t c3, if_pos c3, if_pos rfl]
        exact ⟨_, rfl, rfl⟩
      · rw [rg_f c3, if_neg c3, if_neg n10]
        obtain ⟨j, hj, rfl⟩ := v_le (n := 4) (fun q => c3 (Or.inl q)) (fun q => c3 (Or.inr q))
        rcases (show b = 0 ∨ b = 1 by omega) with rfl | rfl
        · rw [if_pos nI_0, if_pos nI_0, f_X7_portionOf_J48a, f_X1_tellPortion_q, f_X8_portionOf_J40, gd_t (by decide), show S (34 : Int32).toNatClampNeg = nI (v_ch σ).length from m4.1, hq.1]
          by_cases c4 : k < (v_ch σ).length
          · have e1 := p_amountAt (N := 106) hq (by omega) (by decide) c4
            have e2 := p_markAt (N := 106) hq (by omega) (by decide) c4
            rw [hq.1] at e1 e2
            rw [if_pos (nI_lt c4 (by omega)), if_pos (nI_lt c4 (by omega)), e2, Option.bind_some, p_tellP hs k13 (k5 _ (lk_m c4)).2.2 hj _ e1, if_pos nI_0]
            exact ⟨_, rfl, r_J63 (z := 34) m4 m8 k13 (okP_of k5 (by omega)) k6 c4 (by omega) hj⟩
          · rw [if_neg (nI_nlt (by omega) hkk), if_neg (nI_nlt (by omega) hkk)]
            exact ⟨_, rfl, rfl⟩
        · have n1 : ¬ nI 1 = (0 : Int32) := by decide
          rw [if_neg n1, if_neg n1, f_X7_portionOf_J48, f_X1_tellPortion_u, f_X8_portionOf_J40, gd_t (by decide), show S (145 : Int32).toNatClampNeg = nI (v_ba σ).length from m5.1, hu.1]
          by_cases c4 : k < (v_ba σ).length
          · have e1 := p_amountAt (N := 400) hu (by omega) (by decide) c4
            have e2 := p_markAt (N := 400) hu (by omega) (by decide) c4
            rw [hu.1] at e1 e2
            rw [if_pos (nI_lt c4 (by omega)), if_pos (nI_lt c4 (by omega)), e2, Option.bind_some, p_tellP hs k13 (k8 _ (lk_m c4)).2.2 hj _ e1, if_neg n1]
            exact ⟨_, rfl, r_J63 (z := 145) m5 m8 k13 (okP_of k8 (by omega)) k9 c4 (by omega) hj⟩
          · rw [if_neg (nI_nlt (by omega) hkk), if_neg (nI_nlt (by omega) hkk)]
            exact ⟨_, rfl, rfl⟩
  · rw [is01_f c1, if_neg c1, Option.bind_some, Option.bind_some, if_pos rfl, if_pos rfl]
    exact ⟨_, rfl, rfl⟩
theorem q_shotOf {σ : Sp} {B nw : Nat} {S sF st : Nat → Int32} {sk : Int32} (hK : shR (v_K σ) sF sk) (hs : stR (v_st σ) st) (hm : MR σ S) (hk : KK σ B) (x1 x2 : Int32) : ∃ r, f_X7_shotOf x1 x2 nw sF sk st = some r ∧ f_X8_shotOf x1 x2 S = some r := by
  obtain ⟨m1, m2, m3, m4, m5, m6, m7, m8, m9, m10, m11, m12, m13, m14⟩ := hm
  have k13 := hk.2.2.2.2.2.2.2.2.2.2.2.2.1
  have h12 := m6.2.1
  rw [f_X7_shotOf, f_X8_shotOf]
  by_cases c1 : x1 < 0
  · rw [if_pos c1, if_pos c1]
    exact ⟨_, rfl, rfl⟩
  · rw [if_neg c1, if_neg c1, r_in, Option.bind_some]
    obtain ⟨k, hkk, rfl⟩ := nI_of c1
    by_cases c2 : x2 < 0 ∨ (7 : Int32) < x2
    · rw [rg_t c2, if_pos c2, if_pos rfl]
      exact ⟨_, rfl, rfl⟩
    · rw [rg_f c2, if_neg c2, if_neg n10]
      obtain ⟨j, hj, rfl⟩ := v_le (n := 7) (fun q => c2 (Or.inl q)) (fun q => c2 (Or.inr q))
      have e0 : st (0 : Int32).toNatClampNeg = nI (v_st σ 0) := hs 0 (by decide)
      rw [e0, p_tellShot hK k13.2.1 hkk (by omega), show S (546 : Int32).toNatClampNeg = nI (v_K σ).length from m6.1, Option.bind_some]
      by_cases c3 : k < (v_K σ).length
      · rw [if_pos c3, if_pos (nI_lt c3 (by omega)), lt_v, fa_lit 547, fa_lit 7, pk_mul, nI_add]
        obtain ⟨g1, g2, g3, g4, g5, g6, g7⟩ := m6.2.2.2 k c3
        have ht := m6.2.2.1 k c3
        have key : ∀ w : Nat, w ≤ 6 → f_X8_shotOf_J78 S (nI w) (nI (547 + 7 * k)) = some (S (547 + 7 * k + w)) := fun w hw => by
          rw [f_X8_shotOf_J78, nI_add, gd_t (nI_in (by omega) (by decide)), v_cl (by omega)]
        refine ⟨_, rfl, ?_⟩
        rcases (show j = 0 ∨ j = 1 ∨ j = 2 ∨ j = 3 ∨ j = 4 ∨ j = 5 ∨ j = 6 ∨ j = 7 by omega) with rfl | rfl | rfl | rfl | rfl | rfl | rfl | rfl
        · rw [if_neg (by decide), if_neg (by decide), key 0 (by decide), Nat.add_zero, g1]; rfl
        · rw [if_neg (by decide), if_neg (by decide), key 1 (by decide), g2]; rfl
        · rw [if_neg (by decide), if_neg (by decide), key 2 (by decide), g3]; rfl
        · rw [if_neg (by decide), if_neg (by decide), key 3 (by decide), g4]; rfl
        · rw [if_neg (by decide), if_neg (by decide), key 4 (by decide), g5]; rfl
        · rw [if_pos (by decide), nI_1, gd_t (nI_in (by omega) (by decide)), v_cl (by omega), g2, r_away (m8 0 (by decide)) (by omega) (by have := k13.2.1; omega)]
          rfl
        · rw [if_neg (by decide), if_pos (by decide), show nI 6 - (1 : Int32) = nI 5 from nI_pred 5, key 5 (by decide), g6]; rfl
        · rw [if_neg (by decide), if_pos (by decide), show nI 7 - (1 : Int32) = nI 6 from nI_pred 6, key 6 (by decide), g7]; rfl
      · rw [if_neg c3, if_neg (nI_nlt (by omega) hkk)]
        exact ⟨_, rfl, rfl⟩
end
section
/-! count, undo, type, clearText -/
theorem q_count {σ : Sp} {B nw n0 n1 : Nat} {S st : Nat → Int32} {pt qt ut sm se fi gr br pu nr : Int32} (hpt : pt = nI (tot (v_lo σ))) (hqt : qt = nI (tot (v_ch σ))) (hut : ut = nI (tot (v_ba σ))) (hsm : sm = v_mk σ) (hst : stR (v_st σ) st) (hse : se = nI (v_se σ)) (hfi : fi = v_fi σ) (hgr : gr = v_gr σ) (hbr : br = v_br σ) (hpu : pu = v_pu σ) (hnr : nr = v_nr σ) (hm : MR σ S) (hk : KK σ B) (x1 : Int32) : ∃ r, f_X7_count x1 nw (nI n0) (nI n1) pt qt ut sm st se fi gr br pu nr = some r ∧ f_X8_count x1 S (nI n0) (nI n1) = some r := by
  obtain ⟨m1, m2, m3, m4, m5, m6, m7, m8, m9, m10, m11, m12, m13, m14⟩ := hm
  obtain ⟨k1, k2, k3, k4, k5, k6, k7, k8, k9, k10, k11, k12, k13, k14⟩ := hk
  have l1 := len_tot k5
  have l2 := len_tot k8
  have ec : f_X8_amounts (34 : Int32) (35 : Int32) S = some (nI (tot (v_ch σ))) := r_amounts (b := 34) m4 (okP_of k5 (by omega)) (by omega)
  have eb : f_X8_amounts (145 : Int32) (146 : Int32) S = some (nI (tot (v_ba σ))) := r_amounts (b := 145) m5 (okP_of k8 (by omega)) (by omega)
  have eh := r_hopper m1 k4
  subst hpt hqt hut hsm hse hfi hgr hbr hpu hnr
  rw [f_X7_count, f_X1_tell, f_X8_count, ec, eb, eh]
  by_cases c0 : x1 = 0
  · subst c0
    rw [if_neg (by decide), if_neg (by decide), if_pos rfl, if_pos rfl, gd_t (by decide)]
    exact ⟨_, rfl, congrArg some m9⟩
  by_cases c1 : x1 = 1
  · subst c1
    rw [if_neg (by decide), if_neg (by decide), if_neg c0, if_pos rfl, if_neg c0, if_pos rfl, gd_t (by decide)]
    exact ⟨_, rfl, congrArg some m10⟩
  by_cases c2 : x1 = 2
  · subst c2
    rw [if_neg (by decide), if_neg (by decide), if_neg c0, if_neg c1, if_pos rfl, if_neg c0, if_neg c1, if_pos rfl, gd_t (by decide)]
    exact ⟨_, rfl, congrArg some m11⟩
  by_cases c3 : x1 = 3
  · subst c3
    rw [if_neg (by decide), if_neg (by decide), if_neg c0, if_neg c1, if_neg c2, if_pos rfl, if_neg c0, if_neg c1, if_neg c2, if_pos rfl, gd_t (by decide)]
    exact ⟨_, rfl, congrArg some m12⟩
  by_cases c4 : x1 = 4
  · subst c4
    rw [if_neg (by decide), if_neg (by decide), if_neg c0, if_neg c1, if_neg c2, if_neg c3, if_pos rfl, if_neg c0, if_neg c1, if_neg c2, if_neg c3, if_pos rfl, gd_t (by decide)]
    exact ⟨_, rfl, congrArg some m13⟩
  by_cases c5 : x1 = 5
  · subst c5
    rw [if_neg (by decide), if_neg (by decide), if_neg c0, if_neg c1, if_neg c2, if_neg c3, if_neg c4, if_pos rfl, if_neg c0, if_neg c1, if_neg c2, if_neg c3, if_neg c4, if_pos rfl]
    exact ⟨_, rfl, rfl⟩
  by_cases c6 : x1 = 6
  · subst c6
    rw [if_neg (by decide), if_neg (by decide), if_neg c0, if_neg c1, if_neg c2, if_neg c3, if_neg c4, if_neg c5, if_pos rfl, if_neg c0, if_neg c1, if_neg c2, if_neg c3, if_neg c4, if_neg c5, if_pos rfl]
    exact ⟨_, rfl, rfl⟩
  by_cases c7 : x1 = 7
  · subst c7
    rw [if_neg (by decide), if_neg (by decide), if_neg c0, if_neg c1, if_neg c2, if_neg c3, if_neg c4, if_neg c5, if_neg c6, if_pos rfl, if_neg c0, if_neg c1, if_neg c2, if_neg c3, if_neg c4, if_neg c5, if_neg c6, if_pos rfl]
    exact ⟨_, rfl, rfl⟩
  by_cases c8 : x1 = 8
  · subst c8
    rw [if_neg (by decide), if_neg (by decide), if_neg c0, if_neg c1, if_neg c2, if_neg c3, if_neg c4, if_neg c5, if_neg c6, if_neg c7, if_pos rfl, if_neg c0, if_neg c1, if_neg c2, if_neg c3, if_neg c4, if_neg c5, if_neg c6, if_neg c7, if_pos rfl, gd_t (by decide)]
    exact ⟨_, rfl, congrArg some m7⟩
  by_cases c9 : x1 = 9
  · subst c9
    rw [if_neg (by decide), if_neg (by decide), if_neg c0, if_neg c1, if_neg c2, if_neg c3, if_neg c4, if_neg c5, if_neg c6, if_neg c7, if_neg c8, if_pos rfl, if_neg c0, if_neg c1, if_neg c2, if_neg c3, if_neg c4, if_neg c5, if_neg c6, if_neg c7, if_neg c8, if_pos rfl, gd_t (by decide)]
    exact ⟨_, rfl, congrArg some m14⟩
  by_cases c10 : x1 = 10
  · subst c10
    rw [if_pos rfl, if_neg c0, if_neg c1, if_neg c2, if_neg c3, if_neg c4, if_neg c5, if_neg c6, if_neg c7, if_neg c8, if_neg c9, if_pos rfl]
    exact ⟨_, rfl, rfl⟩
  by_cases c11 : x1 = 11
  · subst c11
    rw [if_neg c10, if_pos rfl, if_neg c0, if_neg c1, if_neg c2, if_neg c3, if_neg c4, if_neg c5, if_neg c6, if_neg c7, if_neg c8, if_neg c9, if_neg c10, if_pos rfl]
    exact ⟨_, rfl, rfl⟩
  rw [if_neg c10, if_neg c11, if_neg c0, if_neg c1, if_neg c2, if_neg c3, if_neg c4, if_neg c5, if_neg c6, if_neg c7, if_neg c8, if_neg c9, if_neg c0, if_neg c1, if_neg c2, if_neg c3, if_neg c4, if_neg c5, if_neg c6, if_neg c7, if_neg c8, if_neg c9, if_neg c10, if_neg c11, f_X1_tellSetting, r_in, Option.bind_some]
  by_cases d1 : x1 < (20 : Int32)
  · rw [if_pos d1, if_pos (Or.inl d1), if_pos rfl]
    exact ⟨_, rfl, rfl⟩
  · have h0 : ¬ x1 < 0 := fun q => d1 (by
      rw [Int32.lt_iff_toInt_lt] at q ⊢
      rw [Int32.toInt_zero] at q
      rw [fa_lit 20, nI_toInt (by decide)]
      omega)
    obtain ⟨j, hj, rfl⟩ := nI_of h0
    have hj1 : 20 ≤ j := Nat.not_lt.mp (fun q => d1 (nI_lt (b := 20) q (by decide)))
    rw [if_neg d1, show (20 : Int32) + (6 : Int32) = nI 26 from rfl]
    by_cases d2 : j < 26
    · have hi : j - 20 < 6 := by omega
      rw [if_pos (nI_lt d2 (by decide)), fa_lit 20, pk_sub hj1, gd_t (nI_in (by omega) (by decide)), v_cl (by omega), if_neg (show ¬ (nI j < nI 20 ∨ (25 : Int32) < nI j) from fun q => by rcases q with q | q; exact d1 q; exact nI_nlt (a := 25) (b := j) (by omega) (by decide) q), if_neg n10, fa_lit 7, nI_add, pk_sub (by omega), gd_t (nI_in (by omega) (by decide)), v_cl (by omega), hst (j - 20) hi]
      refine ⟨_, rfl, ?_⟩
      have := m8 (j - 20) hi
      rw [show 7 + (j - 20) = 7 + j - 20 by omega] at this
      rw [this]
    · rw [if_neg (nI_nlt (by omega) hj), if_pos (show nI j < 20 ∨ (25 : Int32) < nI j from Or.inr (nI_lt (a := 25) (by omega) hj)), if_pos rfl]
      exact ⟨_, rfl, rfl⟩
theorem r_undo_L {P : Nat → Int32} {n : Nat} (hn : n < 4) : ∀ (m i fuel : Nat) (S : Nat → Int32), i + m = 631 → m < fuel → ∃ S', f_X8_undo_L22 P fuel (nI i) S (nI n) = some (nI n, S', nI n) ∧ (∀ k, i ≤ k → k < 631 → S' k = P (631 * n + k)) ∧ ∀ k, k < i → S' k = S k := by
  intro m
  induction m with
  | zero =>
    intro i fuel S hi hf
    obtain ⟨fu, rfl⟩ : ∃ fu, fuel = fu + 1 := ⟨fuel - 1, by omega⟩
    rw [f_X8_undo_L22, if_pos (show (631 : Int32) ≤ nI i from nI_le (a := 631) (by omega) (by omega))]
    exact ⟨S, rfl, fun k h1 h2 => absurd h2 (by omega), fun k _ => rfl⟩
  | succ m ih =>
    intro i fuel S hi hf
    obtain ⟨fu, rfl⟩ : ∃ fu, fuel = fu + 1 := ⟨fuel - 1, by omega⟩
    obtain ⟨S', a1, a2, a3⟩ := ih (i + 1) fu (upd S i (P (631 * n + i))) (by omega) (by omega)
    refine ⟨S', ?_, ?_, ?_⟩
    · rw [f_X8_undo_L22, if_neg (show ¬ (631 : Int32) ≤ nI i from nI_ge (b := 631) (by omega) (by decide)), fa_lit 631, pk_mul, nI_add, gd_t (nI_in (by omega) (by decide)), lt_v, gd_t (nI_in (by omega) (by decide)), lt_v, lt_v, v_cl (by omega), v_cl (by omega), nI_1, a1]
    · intro k h1 h2
      by_cases e : k = i
      · subst e
        rw [a3 _ (by omega), pk_us]
      · exact a2 k (by omega) h2
    · intro k hk
      rw [a3 k (by omega), pk_un (by omega)]
theorem r_undo {σ : Sp} {hs : List Sp} {B : Nat} {S P : Nat → Int32} {pasts : Int32} (h : PR (σ :: hs) P pasts) (hk : KK σ B) : ∃ S', f_X8_undo S P pasts = some (nI hs.length, S', nI hs.length) ∧ MR σ S' ∧ PR hs P (nI hs.length) := by
  obtain ⟨rfl, h4, hj⟩ := h
  simp only [List.length_cons] at h4
  obtain ⟨S', a1, a2, -⟩ := r_undo_L (P := P) (n := hs.length) (by omega) 631 0 FU S (by omega) (by show 631 < 20000; omega)
  refine ⟨S', ?_, ?_, rfl, by omega, ?_⟩
  · rw [f_X8_undo, List.length_cons, if_neg (nI_ne0 (by omega) (by omega)), nI_pred, lt_v]
    exact a1
  · have hl : (σ :: hs).reverse[hs.length]? = some σ := by
      rw [List.reverse_cons, List.getElem?_append_right (by rw [List.length_reverse]; exact Nat.le_refl _), List.length_reverse, Nat.sub_self]
      rfl
    exact (hj hs.length σ hl).of hk (fun i hi => a2 i (Nat.zero_le _) (by omega))
  · intro j τ hτ
    refine hj j τ ?_
    have hlt : j < hs.reverse.length := (List.getElem?_eq_some_iff.mp hτ).1
    rw [List.reverse_cons, List.getElem?_append_left hlt]
    exact hτ
theorem r_undo0 (S P : Nat → Int32) : f_X8_undo S P (nI 0) = some (cNP, S, nI 0) := by
  rw [f_X8_undo, if_pos nI_0]
/-- the text, as either side has it -/
def TX (tx : List Nat) (sg : Nat → Int32) (n : Int32) : Prop := n = nI tx.length ∧ tx.length ≤ 60 ∧ (∀ p ∈ tx, 32 ≤ p ∧ p ≤ 126) ∧ ∀ k, k < tx.length → sg k = nI (tx.getD k 0)
theorem TX.snoc {tx : List Nat} {sg : Nat → Int32} {n : Int32} {c : Nat} (h : TX tx sg n) (hl : tx.length < 60) (hc : 32 ≤ c ∧ c ≤ 126) : TX (tx ++ [c]) (upd sg tx.length (nI c)) (nI (tx.length + 1)) := by
  refine ⟨by rw [List.length_append]; rfl, by rw [List.length_append, List.length_singleton]; omega, fun p hp => ?_, fun k hk => ?_⟩
  · rcases List.mem_append.mp hp with hp | hp
    · exact h.2.2.1 p hp
    · rw [List.mem_singleton] at hp
      subst hp
      exact hc
  · rw [List.length_append, List.length_singleton] at hk
    by_cases e : k = tx.length
    · subst e
      rw [pk_us, List.getD_eq_getElem?_getD, List.getElem?_append_right (Nat.le_refl _), Nat.sub_self]
      rfl
    · rw [pk_un e, h.2.2.2 k (by omega), List.getD_eq_getElem?_getD, List.getD_eq_getElem?_getD, List.getElem?_append_left (by omega)]
theorem TX.nil (sg : Nat → Int32) : TX [] sg 0 := ⟨rfl, by decide, fun p hp => (by cases hp), fun k hk => absurd hk (Nat.not_lt_zero k)⟩
theorem q_type {tx : List Nat} {sg Tx : Nat → Int32} {oL typed : Int32} (h1 : TX tx sg oL) (h2 : TX tx Tx typed) (x1 : Int32) : ∃ R R', f_X7_type x1 sg oL = some R ∧ f_X8_type x1 Tx typed = some R' ∧ R.1 = R'.1 ∧ ∃ tx', TX tx' R.2.1 R.2.2 ∧ TX tx' R'.2.1 R'.2.2 := by
  have hlen := h1.2.1
  rw [f_X7_type, f_X8_type, r_in, Option.bind_some]
  by_cases c : x1 < (32 : Int32) ∨ (126 : Int32) < x1
  · have e1 : (if x1 < (32 : Int32) then some ((-1000001 : Int32), sg, oL) else (if x1 ≤ (126 : Int32) then (f_X4_append ((x1.toUInt32 % 65536).toInt32) sg oL).bind fun q3 => some (q3.1, q3.2.1, q3.2.2) else some ((-1000001 : Int32), sg, oL))) = some ((-1000001 : Int32), sg, oL) := by
      by_cases d : x1 < (32 : Int32)
      · rw [if_pos d]
      · rw [if_neg d, if_neg (Int32.not_le.mpr (by rcases c with c | c; exact absurd c d; exact c))]
    rw [e1, if_pos c, if_pos rfl]
    exact ⟨_, _, rfl, rfl, rfl, tx, h1, h2⟩
  · have d1 : ¬ x1 < (32 : Int32) := fun q => c (Or.inl q)
    have d2 : ¬ (126 : Int32) < x1 := fun q => c (Or.inr q)
    have h0 : ¬ x1 < 0 := fun q => d1 (by
      rw [Int32.lt_iff_toInt_lt] at q ⊢
      rw [Int32.toInt_zero] at q
      rw [fa_lit 32, nI_toInt (by decide)]
      omega)
    obtain ⟨j, hj, rfl⟩ := nI_of h0
    have hj1 : 32 ≤ j := Nat.not_lt.mp (fun q => d1 (nI_lt (b := 32) q (by decide)))
    have hj2 : j ≤ 126 := Nat.not_lt.mp (fun q => d2 (nI_lt (a := 126) q hj))
    rw [if_neg d1, if_pos (Int32.not_lt.mp d2), if_neg c, if_neg n10, f_X4_append, pk_vc, pk_char, pk_tn (by omega), show j % 65536 = j by omega, h1.1, h2.1, if_neg (nI_pos (by omega)), fa_lit 60]
    by_cases d3 : tx.length = 60
    · rw [if_neg (nI_nlt (by omega) (by omega)), if_pos (by rw [d3])]
      refine ⟨_, _, rfl, rfl, rfl, tx, ?_, ?_⟩
      · rw [← h1.1]; exact h1
      · rw [← h2.1]; exact h2
    · rw [if_pos (nI_lt (by omega) (by decide)), if_neg (fun q => d3 ((nI_eq (by omega) (by decide)).mp q)), gd_t (nI_in (by omega) (by decide)), gd_t (nI_in (by omega) (by decide)), v_cl (by omega), lt_v, lt_v, lt_v, lt_v, nI_1]
      exact ⟨_, _, rfl, rfl, rfl, tx ++ [j], h1.snoc (by omega) ⟨hj1, hj2⟩, h2.snoc (by omega) ⟨hj1, hj2⟩⟩
/-! best -/
theorem ahead_mono (K : List Sh) (g i j : Nat) (h : aw (sk0 K i).2.1 g < aw (sk0 K j).2.1 g ∨ (aw (sk0 K i).2.1 g = aw (sk0 K j).2.1 g ∧ i < j)) : ∀ n, ahead K g i n + (if i < n then 1 else 0) ≤ ahead K g j n
  | 0 => by simp [ahead]
  | n + 1 => by
    have ih := ahead_mono K g i j h n
    rw [show ahead K g i (n + 1) = ahead K g i n + (if aw (sk0 K n).2.1 g < aw (sk0 K i).2.1 g ∨ (aw (sk0 K n).2.1 g = aw (sk0 K i).2.1 g ∧ n < i) then 1 else 0) from rfl, show ahead K g j (n + 1) = ahead K g j n + (if aw (sk0 K n).2.1 g < aw (sk0 K j).2.1 g ∨ (aw (sk0 K n).2.1 g = aw (sk0 K j).2.1 g ∧ n < j) then 1 else 0) from rfl]
    rcases Nat.lt_trichotomy i n with q | q | q
    · rw [if_pos q] at ih
      rw [if_pos (show i < n + 1 by omega)]
      split <;> split <;> omega
    · subst q
      rw [if_neg (Nat.lt_irrefl i)] at ih
      rw [if_pos (show i < i + 1 by omega)]
      split <;> omega
    · rw [if_neg (show ¬ i < n by omega)] at ih
      rw [if_neg (show ¬ i < n + 1 by omega)]
      split <;> split <;> omega
theorem ahead_ne {K : List Sh} {g i j : Nat} (hi : i < K.length) (hj : j < K.length) (h : i ≠ j) : ahead K g i K.length ≠ ahead K g j K.length := by
  by_cases c : aw (sk0 K i).2.1 g < aw (sk0 K j).2.1 g ∨ (aw (sk0 K i).2.1 g = aw (sk0 K j).2.1 g ∧ i < j)
  · have := ahead_mono K g i j c K.length
    rw [if_pos hi] at this
    omega
  · have := ahead_mono K g j i (by omega) K.length
    rw [if_pos hj] at this
    omega
theorem r_bestIn {r12 : Int32 → Int32 → Option Int32} {K : List Sh} {S : Nat → Int32} {g i : Nat} {x y2 : Int32} (h : shM K S) (hg : S 7 = nI g) (hg2 : g ≤ 600) (hi : i < K.length) : ∀ (m n fuel : Nat), n + m = K.length → m < fuel → f_X8_best_L51 r12 S x y2 (nI i) (nI (aw (sk0 K i).2.1 g)) fuel (nI (ahead K g i n)) (nI n) = r12 (if nI (ahead K g i K.length) = x then (sk0 K i).1 else y2) (nI (i + 1)) := by
  have h12 := h.2.1
  have hK : S (546 : Int32).toNatClampNeg = nI K.length := h.1
  have hai := aw_le (h.2.2.1 i hi) hg2
  intro m
  induction m with
  | zero =>
    intro n fuel hn hf
    obtain ⟨fu, rfl⟩ : ∃ fu, fuel = fu + 1 := ⟨fuel - 1, by omega⟩
    have e1 := (h.2.2.2 i hi).1
    rw [f_X8_best_L51, hK, if_pos (nI_le (by omega) (by omega)), show n = K.length by omega]
    by_cases q : nI (ahead K g i K.length) = x
    · rw [if_pos q, if_pos q, fa_lit 547, fa_lit 7, pk_mul, nI_add, gd_t (nI_in (by omega) (by decide)), v_cl (by omega), f_X8_best_J145, lt_v, nI_1, e1]
    · rw [if_neg q, if_neg q, f_X8_best_J145, lt_v, nI_1]
  | succ m ih =>
    intro n fuel hn hf
    obtain ⟨fu, rfl⟩ : ∃ fu, fuel = fu + 1 := ⟨fuel - 1, by omega⟩
    have hal := ahead_le K g i n
    have hn2 := h.2.2.1 n (by omega)
    have han := aw_le hn2 hg2
    have e1 := (h.2.2.2 n (by omega)).2.1
    have ih' := ih (n + 1) fu (by omega) (by omega)
    rw [show ahead K g i (n + 1) = ahead K g i n + (if aw (sk0 K n).2.1 g < aw (sk0 K i).2.1 g ∨ (aw (sk0 K n).2.1 g = aw (sk0 K i).2.1 g ∧ n < i) then 1 else 0) from rfl] at ih'
    rw [f_X8_best_L51, hK, if_neg (nI_ge (by omega) (by omega)), fa_lit 547, fa_lit 7, fa_lit 1, pk_mul, nI_add, nI_add, gd_t (nI_in (by omega) (by decide)), v_cl (by omega), e1, r_away hg (by omega) (by omega), Option.bind_some]
    simp only [f_X8_best_J108, f_X8_best_J112, f_X8_best_J113, lt_v]
    rw [nI_1, nI_1, show nI (ahead K g i n) + (0 : Int32) = nI (ahead K g i n) from Int32.add_zero _]
    by_cases q1 : aw (sk0 K n).2.1 g < aw (sk0 K i).2.1 g
    · rw [if_pos (nI_lt q1 (by omega))]
      rw [if_pos (Or.inl q1)] at ih'
      exact ih'
    · rw [if_neg (nI_nlt (by omega) (by omega))]
      by_cases q2 : aw (sk0 K n).2.1 g = aw (sk0 K i).2.1 g
      · rw [if_pos (congrArg nI q2)]
        by_cases q3 : n < i
        · rw [if_neg (nI_ge q3 (by omega))]
          rw [if_pos (Or.inr ⟨q2, q3⟩)] at ih'
          exact ih'
        · rw [if_pos (nI_le (by omega) (by omega))]
          rw [if_neg (by omega), Nat.add_zero] at ih'
          exact ih'
      · rw [if_neg (fun z => q2 ((nI_eq (by omega) (by omega)).mp z))]
        rw [if_neg (by omega), Nat.add_zero] at ih'
        exact ih'
/-- the last one from i on that stands at this place, else y -/
def lastAt (K : List Sh) (g : Nat) (x : Int32) : Nat → Nat → Int32 → Int32
  | 0, _, y => y
  | m + 1, i, y => lastAt K g x m (i + 1) (if nI (ahead K g i K.length) = x then (sk0 K i).1 else y)
theorem lastAt_no {K : List Sh} {g i0 : Nat} {x : Int32} (hlen : K.length ≤ 12) (hi0 : i0 < K.length) (h0 : nI (ahead K g i0 K.length) = x) : ∀ (m i : Nat) (y : Int32), i + m = K.length → i0 < i → lastAt K g x m i y = y
  | 0, _, _, _, _ => rfl
  | m + 1, i, y, hm, hi => by
    have a1 := ahead_le K g i K.length
    have a2 := ahead_le K g i0 K.length
    have hne : ¬ nI (ahead K g i K.length) = x := fun q => ahead_ne (g := g) hi0 (show i < K.length by omega) (by omega) ((nI_eq (by omega) (by omega)).mp (h0.trans q.symm))
    rw [lastAt, if_neg hne]
    exact lastAt_no hlen hi0 h0 m (i + 1) y (by omega) (by omega)
theorem last_best {K : List Sh} {g : Nat} {x : Int32} (hlen : K.length ≤ 12) : ∀ (m i : Nat), i + m = K.length → lastAt K g x m i (-1000004) = bestAt K g x m i
  | 0, _, _ => rfl
  | m + 1, i, hm => by
    rw [lastAt, bestAt]
    by_cases q : nI (ahead K g i K.length) = x
    · rw [if_pos q, if_pos q, lastAt_no hlen (show i < K.length by omega) q m (i + 1) _ (by omega) (by omega)]
    · rw [if_neg q, if_neg q]
      exact last_best hlen m (i + 1) (by omega)
theorem r_best_L {K : List Sh} {S : Nat → Int32} {g : Nat} {x : Int32} (h : shM K S) (hg : S 7 = nI g) (hg2 : g ≤ 600) : ∀ (m i fuel : Nat) (y : Int32), i + m = K.length → m < fuel → f_X8_best_L12 S x fuel y (nI i) = some (lastAt K g x m i y) := by
  have h12 := h.2.1
  have hK : S (546 : Int32).toNatClampNeg = nI K.length := h.1
  intro m
  induction m with
  | zero =>
    intro i fuel y hi hf
    obtain ⟨fu, rfl⟩ : ∃ fu, fuel = fu + 1 := ⟨fuel - 1, by omega⟩
    rw [f_X8_best_L12, hK, if_pos (nI_le (by omega) (by omega))]
    rfl
  | succ m ih =>
    intro i fuel y hi hf
    obtain ⟨fu, rfl⟩ : ∃ fu, fuel = fu + 1 := ⟨fuel - 1, by omega⟩
    have e1 := (h.2.2.2 i (by omega)).2.1
    have ht := h.2.2.1 i (by omega)
    have := r_bestIn (r12 := f_X8_best_L12 S x fu) (x := x) (y2 := y) h hg hg2 (show i < K.length by omega) K.length 0 FU (by omega) (by show _ < 20000; omega)
    have this' : f_X8_best_L51 (f_X8_best_L12 S x fu) S x y (nI i) (nI (aw (sk0 K i).2.1 g)) FU 0 0 = _ := this
    rw [f_X8_best_L12, hK, if_neg (nI_ge (by omega) (by omega)), fa_lit 547, fa_lit 7, fa_lit 1, pk_mul, nI_add, nI_add, gd_t (nI_in (by omega) (by decide)), v_cl (by omega), e1, r_away hg (by omega) (by omega), Option.bind_some, this', ih (i + 1) fu _ (by omega) (by omega)]
    rfl
theorem q_best {σ : Sp} {B nw : Nat} {S sF st : Nat → Int32} {sk : Int32} (hK : shR (v_K σ) sF sk) (hs : stR (v_st σ) st) (hm : MR σ S) (hk : KK σ B) (x1 : Int32) : ∃ r, f_X7_best x1 nw sF sk st = some r ∧ f_X8_best x1 S = some r := by
  obtain ⟨m1, m2, m3, m4, m5, m6, m7, m8, m9, m10, m11, m12, m13, m14⟩ := hm
  have k13 := hk.2.2.2.2.2.2.2.2.2.2.2.2.1
  have h12 := m6.2.1
  rw [f_X7_best, f_X8_best]
  by_cases c1 : 0 ≤ x1
  · have e0 : st (0 : Int32).toNatClampNeg = nI (v_st σ 0) := hs 0 (by decide)
    have := r_best_L (x := x1) m6 (m8 0 (by decide)) k13.2.1 (v_K σ).length 0 FU (-1000004) (by omega) (by show _ < 20000; omega)
    rw [last_best h12 _ _ (by omega)] at this
    rw [if_pos c1, if_pos c1, e0, p_number x1 hK k13.2.1, Option.bind_some]
    exact ⟨_, rfl, this⟩
  · rw [if_neg c1, if_neg c1]
    exact ⟨_, rfl, rfl⟩
end
section
/-! dialFor, stale, coolAfter, wouldTake -/
def awD (v : Nat → Nat) (w k d : Nat) : Nat := aw (fw (hdn v k) (gp d w)) (v 0)
/-- the nearest of the dials 1 to n + 1, the lowest of several -/
def nrD (v : Nat → Nat) (w k : Nat) : Nat → Nat
  | 0 => 1
  | n + 1 => if awD v w k (n + 2) < awD v w k (nrD v w k n) then n + 2 else nrD v w k n
theorem nrD_le (v : Nat → Nat) (w k : Nat) : ∀ n, 1 ≤ nrD v w k n ∧ nrD v w k n ≤ n + 1
  | 0 => ⟨Nat.le_refl 1, Nat.le_refl 1⟩
  | n + 1 => by
    have := nrD_le v w k n
    rw [nrD]
    split <;> omega
theorem awD_le {v : Nat → Nat} (hv : stK v) (w k d : Nat) : awD v w k d ≤ 30000 := aw_le (fw_le (hdn_le hv _)) hv.2.1
theorem p_awD0 {v : Nat → Nat} {st : Nat → Int32} {w k d : Nat} (hs : stR v st) (hv : stK v) (hw : w ≤ 300) (hk : k < 2) (hd : d ≤ 60) : f_X1_awayAtDial_0 (nI d) (nI k) (nI w) st = some (nI (awD v w k d)) := by
  have e0 : st (0 : Int32).toNatClampNeg = nI (v 0) := hs 0 (by decide)
  have h1 := hdn_le hv k
  have h2 := gp_le (d := d) (w := w) hd
  have h3 := fw_le (h := hdn v k) (g := gp d w) h1
  have hv0 := hv.2.1
  rw [f_X1_awayAtDial_0, p_hard hs (by omega), Option.bind_some, p_gapAt (by omega) (by omega), Option.bind_some, p_flow h1 (by omega), Option.bind_some, e0, p_absI (by omega) (by omega), lt_v]
  rfl
theorem p_awD1 {v : Nat → Nat} {st : Nat → Int32} {w k d : Nat} (hs : stR v st) (hv : stK v) (hw : w ≤ 300) (hk : k < 2) (hd : d ≤ 60) : f_X1_awayAtDial_1 (nI d) (nI k) (nI w) st = some (nI (awD v w k d)) := p_awD0 hs hv hw hk hd
theorem p_nrD0_L {v : Nat → Nat} {st : Nat → Int32} {w k : Nat} (hs : stR v st) (hv : stK v) (hw : w ≤ 300) (hk : k < 2) : ∀ (m n fuel : Nat), n + m = 59 → m < fuel → f_X1_nearestDial_0_L5 (nI w) st (nI k) fuel (nI (nrD v w k n)) (nI (n + 2)) = some (nI (nrD v w k 59)) := by
  intro m
  induction m with
  | zero =>
    intro n fuel hn hf
    obtain ⟨fu, rfl⟩ : ∃ fu, fuel = fu + 1 := ⟨fuel - 1, by omega⟩
    rw [f_X1_nearestDial_0_L5, if_pos (show (60 : Int32) < nI (n + 2) from nI_lt (a := 60) (by omega) (by omega)), show n = 59 by omega]
  | succ m ih =>
    intro n fuel hn hf
    obtain ⟨fu, rfl⟩ : ∃ fu, fuel = fu + 1 := ⟨fuel - 1, by omega⟩
    have hb := nrD_le v w k n
    have a1 := awD_le hv w k (n + 2)
    have a2 := awD_le hv w k (nrD v w k n)
    have ih' := ih (n + 1) fu (by omega) (by omega)
    rw [nrD] at ih'
    rw [f_X1_nearestDial_0_L5, if_neg (show ¬ (60 : Int32) < nI (n + 2) from nI_nlt (a := 60) (by omega) (by omega)), p_awD0 hs hv hw hk (by omega), Option.bind_some, p_awD0 hs hv hw hk (by omega), Option.bind_some]
    by_cases c : awD v w k (n + 2) < awD v w k (nrD v w k n)
    · rw [if_neg (nI_ge c (by omega)), f_X1_nearestDial_0_J33, lt_v, nI_1]
      rw [if_pos c] at ih'
      exact ih'
    · rw [if_pos (nI_le (by omega) (by omega)), f_X1_nearestDial_0_J33, lt_v, nI_1]
      rw [if_neg c] at ih'
      exact ih'
theorem p_nrD0 {v : Nat → Nat} {st : Nat → Int32} {w k : Nat} (hs : stR v st) (hv : stK v) (hw : w ≤ 300) (hk : k < 2) : f_X1_nearestDial_0 (nI k) (nI w) st = some (nI (nrD v w k 59)) := by
  rw [f_X1_nearestDial_0]
  exact p_nrD0_L hs hv hw hk 59 0 FU (by omega) (by show 59 < 20000; omega)
theorem p_nrD1_L {v : Nat → Nat} {st : Nat → Int32} {w k : Nat} (hs : stR v st) (hv : stK v) (hw : w ≤ 300) (hk : k < 2) : ∀ (m n fuel : Nat), n + m = 59 → m < fuel → f_X1_nearestDial_1_L5 (nI w) st (nI k) fuel (nI (nrD v w k n)) (nI (n + 2)) = some (nI (nrD v w k 59)) := by
  intro m
  induction m with
  | zero =>
    intro n fuel hn hf
    obtain ⟨fu, rfl⟩ : ∃ fu, fuel = fu + 1 := ⟨fuel - 1, by omega⟩
    rw [f_X1_nearestDial_1_L5, if_pos (show (60 : Int32) < nI (n + 2) from nI_lt (a := 60) (by omega) (by omega)), show n = 59 by omega]
  | succ m ih =>
    intro n fuel hn hf
    obtain ⟨fu, rfl⟩ : ∃ fu, fuel = fu + 1 := ⟨fuel - 1, by omega⟩
    have hb := nrD_le v w k n
    have a1 := awD_le hv w k (n + 2)
    have a2 := awD_le hv w k (nrD v w k n)
    have ih' := ih (n + 1) fu (by omega) (by omega)
    rw [nrD] at ih'
    rw [f_X1_nearestDial_1_L5, if_neg (show ¬ (60 : Int32) < nI (n + 2) from nI_nlt (a := 60) (by omega) (by omega)), p_awD1 hs hv hw hk (by omega), Option.bind_some, p_awD1 hs hv hw hk (by omega), Option.bind_some]
    by_cases c : awD v w k (n + 2) < awD v w k (nrD v w k n)
    · rw [if_neg (nI_ge c (by omega)), f_X1_nearestDial_1_J33, lt_v, nI_1]
      rw [if_pos c] at ih'
      exact ih'
    · rw [if_pos (nI_le (by omega) (by omega)), f_X1_nearestDial_1_J33, lt_v, nI_1]
      rw [if_neg c] at ih'
      exact ih'
theorem p_nrD1 {v : Nat → Nat} {st : Nat → Int32} {w k : Nat} (hs : stR v st) (hv : stK v) (hw : w ≤ 300) (hk : k < 2) : f_X1_nearestDial_1 (nI k) (nI w) st = some (nI (nrD v w k 59)) := by
  rw [f_X1_nearestDial_1]
  exact p_nrD1_L hs hv hw hk 59 0 FU (by omega) (by show 59 < 20000; omega)
theorem r_awD {v : Nat → Nat} {S : Nat → Int32} {b w k d : Nat} {β : Type} (f : Int32 → Option β) (hs : stM v S) (hv : stK v) (hw : w ≤ 300) (hk : k < 2) (hd : d ≤ 60) (hb : b < 2) (hS : S (13 + 4 * b + 1) = nI w) : gd (¬ (((10 : Int32) + nI k) < 0 ∨ 631 ≤ ((10 : Int32) + nI k).toNatClampNeg)) ((f_X8_ofBurr (nI b) (1 : Int32) S).bind fun q7 => (f_X8_gapBy (nI d) q7).bind fun q8 => gd (¬ q8 = 0) ((f_X8_away (((S ((10 : Int32) + nI k).toNatClampNeg) * (1000 : Int32)) / q8) S).bind fun q10 => f q10)) = f (nI (awD v w k d)) := by
  have h1 := hdn_le hv k
  have h2 := gp_le (d := d) (w := w) hd
  have h2' := gp_ge d w
  have h3 := fw_le (h := hdn v k) (g := gp d w) h1
  have hv0 := hv.2.1
  have ei : S (10 + k) = nI (hdn v k) := by
    rcases (show k = 0 ∨ k = 1 by omega) with rfl | rfl
    · exact hs 3 (by decide)
    · exact hs 4 (by decide)
  have hq : hdn v k * 1000 / gp d w = fw (hdn v k) (gp d w) := by unfold fw; rw [if_neg (by omega)]
  rw [fa_lit 10, nI_add, gd_t (nI_in (by omega) (by decide)), r_ofB1 hb, Option.bind_some, hS, r_gapBy (by omega) (by omega), Option.bind_some, gd_t (nI_ne0 (by omega) (by omega)), v_cl (by omega), ei, fa_lit 1000, pk_mul, pk_div (by omega) (by omega) (by omega), hq, r_away (hs 0 (by decide)) (by omega) (by omega), Option.bind_some]
  rfl
theorem r_nrD_L {v : Nat → Nat} {S : Nat → Int32} {b w k : Nat} (hs : stM v S) (hv : stK v) (hw : w ≤ 300) (hk : k < 2) (hb : b < 2) (hS : S (13 + 4 * b + 1) = nI w) : ∀ (m n fuel : Nat), n + m = 59 → m < fuel → f_X8_dialFor_L25 S (nI b) (nI k) fuel (nI (nrD v w k n)) (nI (awD v w k (nrD v w k n))) (nI (n + 2)) = some (nI (nrD v w k 59)) := by
  intro m
  induction m with
  | zero =>
    intro n fuel hn hf
    obtain ⟨fu, rfl⟩ : ∃ fu, fuel = fu + 1 := ⟨fuel - 1, by omega⟩
    rw [f_X8_dialFor_L25, if_pos (show (60 : Int32) < nI (n + 2) from nI_lt (a := 60) (by omega) (by omega)), show n = 59 by omega]
  | succ m ih =>
    intro n fuel hn hf
    obtain ⟨fu, rfl⟩ : ∃ fu, fuel = fu + 1 := ⟨fuel - 1, by omega⟩
    have hb2 := nrD_le v w k n
    have a1 := awD_le hv w k (n + 2)
    have a2 := awD_le hv w k (nrD v w k n)
    have ih' := ih (n + 1) fu (by omega) (by omega)
    rw [nrD] at ih'
    rw [f_X8_dialFor_L25, if_neg (show ¬ (60 : Int32) < nI (n + 2) from nI_nlt (a := 60) (by omega) (by omega)), r_awD _ hs hv hw hk (by omega) hb hS, if_neg (nI_pos (by omega))]
    by_cases c : awD v w k (n + 2) < awD v w k (nrD v w k n)
    · rw [if_neg (nI_ge c (by omega)), f_X8_dialFor_J75, f_X8_dialFor_J82, lt_v, nI_1]
      rw [if_pos c] at ih'
      exact ih'
    · rw [if_pos (nI_le (by omega) (by omega)), f_X8_dialFor_J82, lt_v, nI_1]
      rw [if_neg c] at ih'
      exact ih'
theorem q_dialFor {σ : Sp} {B nw : Nat} {S st : Nat → Int32} {d0 w0 g0 c0 d1 w1 g1 c1 : Int32} (h0 : buR (v_b0 σ) d0 w0 g0 c0) (h1 : buR (v_b1 σ) d1 w1 g1 c1) (hs : stR (v_st σ) st) (hm : MR σ S) (hk : KK σ B) (x1 x2 : Int32) : ∃ r, f_X7_dialFor x1 x2 nw w0 w1 st = some r ∧ f_X8_dialFor x1 x2 S = some r := by
  have k11 := hk.2.2.2.2.2.2.2.2.2.2.1
  have k12 := hk.2.2.2.2.2.2.2.2.2.2.2.1
  have k13 := hk.2.2.2.2.2.2.2.2.2.2.2.2.1
  have hsM := hm.2.2.2.2.2.2.2.1
  rw [f_X7_dialFor, f_X8_dialFor, r_isOne]
  by_cases c1 : x1 = 0 ∨ x1 = 1
  · obtain ⟨b, hb, rfl⟩ := v01 c1
    rw [is01_t hb, if_pos c1, Option.bind_some, Option.bind_some, if_neg n10, if_neg n10, r_isOne]
    by_cases c2 : x2 = 0 ∨ x2 = 1
    · obtain ⟨k, hkk, rfl⟩ := v01 c2
      rw [is01_t hkk, if_pos c2, Option.bind_some, Option.bind_some, if_neg n10, if_neg n10]
      have hx := bsel_K b k11 k12
      have hS := (bs_M hm hb).2.1
      have key : f_X8_dialFor_L25 S (nI b) (nI k) FU (1 : Int32) (-1 : Int32) (1 : Int32) = some (nI (nrD (v_st σ) (bsel (v_b0 σ) (v_b1 σ) b).2.1 k 59)) := by
        have hF : FU = 19999 + 1 := rfl
        have := r_nrD_L hsM k13 hx.2.2 hkk hb hS 59 0 19999 (by omega) (by omega)
        rw [hF, f_X8_dialFor_L25, if_neg (by decide), show (1 : Int32) = nI 1 from rfl]
        have e := r_awD (d := 1) (fun q10 => (if (-1 : Int32) < 0 then f_X8_dialFor_J75 (f_X8_dialFor_L25 S (nI b) (nI k) 19999) S (nI b) (nI k) (nI 1) q10 else (if (-1 : Int32) ≤ q10 then f_X8_dialFor_J82 (f_X8_dialFor_L25 S (nI b) (nI k) 19999) S (nI b) (nI k) (nI 1) (-1 : Int32) (nI 1) else f_X8_dialFor_J75 (f_X8_dialFor_L25 S (nI b) (nI k) 19999) S (nI b) (nI k) (nI 1) q10))) hsM k13 hx.2.2 hkk (by decide) hb hS
        refine Eq.trans e ?_
        rw [if_pos (by decide), f_X8_dialFor_J75, f_X8_dialFor_J82, lt_v, nI_1]
        exact this
      refine ⟨_, ?_, key⟩
      rcases (show b = 0 ∨ b = 1 by omega) with rfl | rfl
      · rw [if_pos nI_0, h0.2.1, p_nrD0 hs k13 k11.2.2 hkk]; rfl
      · rw [if_neg (show ¬ nI 1 = 0 by decide), h1.2.1, p_nrD1 hs k13 k12.2.2 hkk]; rfl
    · rw [is01_f c2, if_neg c2, Option.bind_some, Option.bind_some, if_pos rfl, if_pos rfl]
      exact ⟨_, rfl, rfl⟩
  · rw [is01_f c1, if_neg c1, Option.bind_some, Option.bind_some, if_pos rfl, if_pos rfl]
    exact ⟨_, rfl, rfl⟩
theorem r_stale_L {σ : Sp} {S : Nat → Int32} {b k0 : Nat} {x : Bu} {L : List (Nat × Nat)} (h : rwM 34 L S) (hok : okP L) (hlen : L.length ≤ 110) (hb : b < 2) (hk0 : k0 < 2) (hx : buM (13 + 4 * b) x S) (hx2 : buK x) (h22 : S 22 = nI k0) : ∀ (m i s u fuel : Nat) (Lr : List (Nat × Nat)), Lr.length = m → i + m = L.length → (∀ k : Nat, k < m → lk Lr k = lk L (i + k)) → m < fuel → f_X8_stale_L30 S (nI b) fuel (nI s) (nI u) (nI i) = some (nI (upTo (4 * gp x.1 x.2.1 + 2 * b + k0) Lr s u)) := by
  have hg := gp_le (d := x.1) (w := x.2.1) hx2.2.1
  intro m
  induction m with
  | zero =>
    intro i s u fuel Lr hL hi hk hf
    obtain ⟨fu, rfl⟩ : ∃ fu, fuel = fu + 1 := ⟨fuel - 1, by omega⟩
    have hL0 : Lr = [] := List.length_eq_zero_iff.mp hL
    subst hL0
    rw [f_X8_stale_L30, c34, h.1, if_pos (nI_le (by omega) (by omega))]
    rfl
  | succ m ih =>
    intro i s u fuel Lr hL hi hk hf
    obtain ⟨fu, rfl⟩ : ∃ fu, fuel = fu + 1 := ⟨fuel - 1, by omega⟩
    match Lr, hL with
    | p :: Lr, hL =>
      simp only [List.length_cons] at hL
      have h1 := hk 0 (by omega)
      rw [lk_0, Nat.add_zero] at h1
      have hp := hok (lk L i) (lk_m (by omega))
      rw [← h1] at hp
      have hk' : ∀ k : Nat, k < m → lk Lr k = lk L (i + 1 + k) := fun k q => by
        have := hk (k + 1) (by omega)
        rw [lk_s] at this
        rw [this, show i + (k + 1) = i + 1 + k by omega]
      have yes := ih (i + 1) (s + p.1) u fu Lr (by omega) (by omega) hk' (by omega)
      have no := ih (i + 1) (s + p.1) (s + p.1) fu Lr (by omega) (by omega) hk' (by omega)
      have hg2 := nI_in (c := 35 + i) (N := 631) (by omega) (by decide)
      have eS : S (35 + i) = nI (enc p) := (h.2 i (by omega)).trans (by rw [h1])
      have jno : f_X8_stale_J99 (f_X8_stale_L30 S (nI b) fu) S (nI b) (nI (s + p.1)) (nI i) = some (nI (upTo (4 * gp x.1 x.2.1 + 2 * b + k0) Lr (s + p.1) (s + p.1))) := by
        rw [f_X8_stale_J99, f_X8_stale_J104, lt_v, nI_1]
        exact no
      rw [f_X8_stale_L30, c34, h.1, if_neg (nI_ge (by omega) (by omega)), fa_lit 35, nI_add, gd_t hg2, v_cl (by omega), eS, lt_v, r_amountOf hp.2.1 hp.2.2, Option.bind_some, lt_v, nI_add, r_kindOf hp.2.1 hp.2.2, Option.bind_some, c22, h22, upTo]
      by_cases c1 : p.2 % 2 = k0
      · rw [if_pos (congrArg nI c1), r_burrIn hp.2.1 hp.2.2, Option.bind_some]
        by_cases c2 : p.2 / 2 % 2 = b
        · rw [if_pos (congrArg nI c2), r_gapOf hp.2.1 hp.2.2, Option.bind_some, r_gap hb hx hx2, Option.bind_some]
          by_cases c3 : p.2 / 4 = gp x.1 x.2.1
          · rw [if_pos (congrArg nI c3), if_pos (show p.2 = 4 * gp x.1 x.2.1 + 2 * b + k0 by omega), f_X8_stale_J104, lt_v, nI_1]
            exact yes
          · rw [if_neg (fun z => c3 ((nI_eq (by omega) (by omega)).mp z)), if_neg (show ¬ p.2 = 4 * gp x.1 x.2.1 + 2 * b + k0 by omega)]
            exact jno
        · rw [if_neg (fun z => c2 ((nI_eq (by omega) (by omega)).mp z)), if_neg (show ¬ p.2 = 4 * gp x.1 x.2.1 + 2 * b + k0 by omega)]
          exact jno
      · rw [if_neg (fun z => c1 ((nI_eq (by omega) (by omega)).mp z)), if_neg (show ¬ p.2 = 4 * gp x.1 x.2.1 + 2 * b + k0 by omega)]
        exact jno
theorem q_stale {σ : Sp} {B nw : Nat} {S pA pM qA qM : Nat → Int32} {pn pt qn qt d0 w0 g0 c0 d1 w1 g1 c1 : Int32} (h0 : buR (v_b0 σ) d0 w0 g0 c0) (h1 : buR (v_b1 σ) d1 w1 g1 c1) (hp : rowR (v_lo σ) pA pM pn pt) (hq : rowR (v_ch σ) qA qM qn qt) (hm : MR σ S) (hk : KK σ B) (x1 : Int32) : ∃ r, f_X7_stale x1 nw pM pn d0 w0 d1 w1 qA qM qn = some r ∧ f_X8_stale x1 S = some r := by
  have hbs := fun (b : Nat) (hb : b < 2) => bs_M hm hb
  obtain ⟨m1, m2, m3, m4, m5, m6, m7, m8, m9, m10, m11, m12, m13, m14⟩ := hm
  obtain ⟨k1, k2, k3, k4, k5, k6, k7, k8, k9, k10, k11, k12, k13, k14⟩ := hk
  have l1 := len_tot k5
  rw [f_X7_stale, f_X8_stale, r_isOne]
  by_cases c1 : x1 = 0 ∨ x1 = 1
  · obtain ⟨b, hb, rfl⟩ := v01 c1
    rw [is01_t hb, if_pos c1, Option.bind_some, Option.bind_some, if_neg n10, if_neg n10, c21, m1.1, f_X1_staleFor, f_X3_isEmpty]
    by_cases c2 : (v_lo σ).length = 0
    · rw [if_neg (show ¬ (1 : Int32) ≤ pn by rw [hp.1]; exact nI_ge (b := 1) (by omega) (by decide)), Option.bind_some, if_neg n10, if_pos (by rw [c2]; exact nI_0)]
      exact ⟨_, rfl, rfl⟩
    · have hk0 := k2 _ (lk_m (L := v_lo σ) (k := 0) (by omega))
      have e22 : S 22 = nI (lk (v_lo σ) 0).2 := (m1.2 0 (by omega)).1
      have em : f_X5_markAt 6 (0 : Int32) pM pn = some (nI (lk (v_lo σ) 0).2) := p_markAt (N := 6) (k := 0) hp k4 (by decide) (by omega)
      have hx := bsel_K b k11 k12
      have hg := gp_le (d := (bsel (v_b0 σ) (v_b1 σ) b).1) (w := (bsel (v_b0 σ) (v_b1 σ) b).2.1) hx.2.1
      have key := r_stale_L (σ := σ) m4 (okP_of k5 (by omega)) (by omega) hb hk0 (hbs b hb) hx e22 (v_ch σ).length 0 0 0 FU (v_ch σ) rfl (by omega) (fun k _ => by rw [Nat.zero_add]) (by show _ < 20000; omega)
      have key' : f_X8_stale_L30 S (nI b) FU 0 0 0 = _ := key
      rw [if_pos (show (1 : Int32) ≤ pn by rw [hp.1]; exact nI_le (a := 1) (by omega) (by omega)), Option.bind_some, if_pos rfl, if_neg (nI_ne0 (by omega) (by omega)), f_X3_firstKind, em, Option.bind_some, Option.bind_some, key']
      refine ⟨_, ?_, rfl⟩
      rcases (show b = 0 ∨ b = 1 by omega) with rfl | rfl
      · have em2 := p_mark (k := (lk (v_lo σ) 0).2) (b := 0) (g := gp (v_b0 σ).1 (v_b0 σ).2.1) hk0 (by decide) (Nat.lt_of_le_of_lt (gp_le k11.2.1) (by decide))
        have hu := p_upTo (N := 106) (m := 4 * gp (v_b0 σ).1 (v_b0 σ).2.1 + 2 * 0 + (lk (v_lo σ) 0).2) (L := v_ch σ) (by decide) (by have := gp_le (d := (v_b0 σ).1) (w := (v_b0 σ).2.1) k11.2.1; omega) (by omega) k5 hq
        rw [if_pos nI_0, h0.1, h0.2.1, p_gap (by have := k11.2.1; omega) (by have := k11.2.2; omega), Option.bind_some, em2, Option.bind_some, hu]
        rfl
      · have em2 := p_mark (k := (lk (v_lo σ) 0).2) (b := 1) (g := gp (v_b1 σ).1 (v_b1 σ).2.1) hk0 (by decide) (Nat.lt_of_le_of_lt (gp_le k12.2.1) (by decide))
        have hu := p_upTo (N := 106) (m := 4 * gp (v_b1 σ).1 (v_b1 σ).2.1 + 2 * 1 + (lk (v_lo σ) 0).2) (L := v_ch σ) (by decide) (by have := gp_le (d := (v_b1 σ).1) (w := (v_b1 σ).2.1) k12.2.1; omega) (by omega) k5 hq
        rw [if_neg (show ¬ nI 1 = 0 by decide), h1.1, h1.2.1, p_gap (by have := k12.2.1; omega) (by have := k12.2.2; omega), Option.bind_some, em2, Option.bind_some, hu]
        rfl
  · rw [is01_f c1, if_neg c1, Option.bind_some, Option.bind_some, if_pos rfl, if_pos rfl]
    exact ⟨_, rfl, rfl⟩
/-! coolAfter -/
theorem ct_ind (t : Nat) : ∀ (n m w : Nat), w ≤ n → w ≤ m → ct n w t = ct m w t
  | 0, m, w, h1, h2 => by
    have : w = 0 := by omega
    subst this
    cases m with
    | zero => rfl
    | succ m => rw [ct, ct, if_neg (by omega)]
  | n + 1, m, w, h1, h2 => by
    cases m with
    | zero =>
      have : w = 0 := by omega
      subst this
      rw [ct, ct, if_neg (by omega)]
    | succ m =>
      rw [ct, ct]
      by_cases c : t < w
      · have h3 := fl_pos (w := w) (by omega)
        rw [if_pos c, if_pos c, ct_ind t n m (w - fl w) (by omega) (by omega)]
      · rw [if_neg c, if_neg c]
theorem ct_step {t w : Nat} (h : w ≤ 300) (c : t < w) : ct 300 w t = 1 + ct 300 (w - fl w) t := by
  have h3 := fl_pos (w := w) (by omega)
  rw [show ct 300 w t = 1 + ct 299 (w - fl w) t by rw [show (300 : Nat) = 299 + 1 from rfl, ct, if_pos c], ct_ind t 299 300 (w - fl w) (by omega) (by omega)]
theorem ct_le : ∀ (n w t : Nat), ct n w t ≤ n
  | 0, _, _ => Nat.le_refl 0
  | n + 1, w, t => by
    have := ct_le n (w - fl w) t
    rw [ct]
    split <;> omega
theorem ct_0 {t w : Nat} (c : ¬ t < w) : ct 300 w t = 0 := by rw [show (300 : Nat) = 299 + 1 from rfl, ct, if_neg c]
theorem r_cool_L {S : Nat → Int32} {s t : Nat} (h0 : S 0 = nI s) (hs : s < 2 ^ 29) (ht : t ≤ 300) : ∀ (M n w fuel : Nat), 10 * w + (9 - (s + n) % 10) = M → M < fuel → w ≤ 300 → n < 2 ^ 20 - 4 * M → M < 2 ^ 14 → f_X8_coolAfter_L31 S (nI t) fuel (nI n) (nI w) = some (nI (if ct 300 w t = 0 then n else n + 10 * ct 300 w t - (s + n) % 10)) := by
  intro M
  induction M using Nat.strongRecOn with
  | _ M ih =>
    intro n w fuel hM hf hw hn hM2
    obtain ⟨fu, rfl⟩ : ∃ fu, fuel = fu + 1 := ⟨fuel - 1, by omega⟩
    have c0 : (0 : Int32).toNatClampNeg = 0 := rfl
    by_cases c : t < w
    · have hp := fl_pos (w := w) (by omega)
      have hl := fl_le w
      have hct := ct_step hw c
      have hcl := ct_le 300 w t
      rw [f_X8_coolAfter_L31, if_neg (nI_ge c (by omega)), lt_v, nI_1, c0, h0, nI_add, fa_lit 10, pk_rem (by omega) (by decide) (by decide)]
      by_cases c2 : (s + (n + 1)) % 10 = 0
      · have ih' := ih (10 * (w - fl w) + (9 - (s + (n + 1)) % 10)) (by omega) (n + 1) (w - fl w) fu rfl (by omega) (by omega) (by omega) (by omega)
        rw [if_pos (by rw [c2]; exact nI_0), r_fall (by omega), Option.bind_some, f_X8_coolAfter_J65, lt_v, pk_sub hl, ih']
        refine so_inj (nI_inj ?_)
        rw [hct, if_neg (show ¬ 1 + ct 300 (w - fl w) t = 0 by omega)]
        split <;> omega
      · have ih' := ih (10 * w + (9 - (s + (n + 1)) % 10)) (by omega) (n + 1) w fu rfl (by omega) hw (by omega) (by omega)
        rw [if_neg (nI_ne0 (by omega) (by omega)), f_X8_coolAfter_J65, lt_v, show nI w - (0 : Int32) = nI w from pk_sub (b := 0) (Nat.zero_le _), ih']
        refine so_inj (nI_inj ?_)
        rw [if_neg (show ¬ ct 300 w t = 0 by omega), if_neg (show ¬ ct 300 w t = 0 by omega)]
        omega
    · rw [f_X8_coolAfter_L31, if_pos (nI_le (by omega) (by omega)), ct_0 c, if_pos rfl]
theorem q_coolAfter {σ : Sp} {B nw : Nat} {S : Nat → Int32} {d0 w0 g0 c0 d1 w1 g1 c1 se : Int32} (h0 : buR (v_b0 σ) d0 w0 g0 c0) (h1 : buR (v_b1 σ) d1 w1 g1 c1) (hse : se = nI (v_se σ)) (hm : MR σ S) (hk : KK σ B) (hB : B < 2 ^ 28) (x1 x2 : Int32) : ∃ r, f_X7_coolAfter x1 x2 nw w0 w1 se = some r ∧ f_X8_coolAfter x1 x2 S = some r := by
  have k11 := hk.2.2.2.2.2.2.2.2.2.2.1
  have k12 := hk.2.2.2.2.2.2.2.2.2.2.2.1
  have k14 := hk.2.2.2.2.2.2.2.2.2.2.2.2.2
  subst hse
  rw [f_X7_coolAfter, f_X8_coolAfter, r_isOne]
  by_cases c1 : x1 = 0 ∨ x1 = 1
  · obtain ⟨b, hb, rfl⟩ := v01 c1
    rw [is01_t hb, if_pos c1, Option.bind_some, Option.bind_some, if_neg n10, if_neg n10, r_in, Option.bind_some]
    by_cases c2 : x2 < 0 ∨ (300 : Int32) < x2
    · rw [rg_t c2, if_pos c2, if_pos rfl]
      exact ⟨_, rfl, rfl⟩
    · rw [rg_f c2, if_neg c2, if_neg n10]
      obtain ⟨t, ht, rfl⟩ := v_le (n := 300) (fun q => c2 (Or.inl q)) (fun q => c2 (Or.inr q))
      have hx := bsel_K b k11 k12
      have hct := ct_le 300 (bsel (v_b0 σ) (v_b1 σ) b).2.1 t
      have key := r_cool_L (t := t) hm.2.2.2.2.2.2.2.2.1 (by omega) ht _ 0 (bsel (v_b0 σ) (v_b1 σ) b).2.1 FU rfl (by have := hx.2.2; show _ < 20000; omega) hx.2.2 (by have := hx.2.2; omega) (by have := hx.2.2; omega)
      have key' : f_X8_coolAfter_L31 S (nI t) FU 0 (nI (bsel (v_b0 σ) (v_b1 σ) b).2.1) = _ := key
      have fin : ∀ n : Nat, n ≤ 300 → (if (1 : Int32) ≤ nI n then some ((nI n * (10 : Int32)) - (nI (v_se σ) - nI (v_se σ) / (10 : Int32) * (10 : Int32))) else some (0 : Int32)) = some (nI (if n = 0 then 0 else 0 + 10 * n - (v_se σ + 0) % 10)) := fun n hn => by
        by_cases c : n = 0
        · subst c; rfl
        · rw [if_pos (show (1 : Int32) ≤ nI n from nI_le (a := 1) (by omega) (by omega)), if_neg c, fa_lit 10, pk_rem (by omega) (by decide) (by decide), pk_mul, pk_sub (by omega)]
          exact so_inj (nI_inj (by omega))
      rw [r_ofB1 hb, Option.bind_some, (bs_M hm hb).2.1, key']
      refine ⟨_, ?_, rfl⟩
      rcases (show b = 0 ∨ b = 1 by omega) with rfl | rfl
      · rw [if_pos nI_0, f_X1_secondsToCool_0, h0.2.1, p_coolings (by omega) k11.2.2, Option.bind_some, fin _ (ct_le _ _ _)]
        rfl
      · rw [if_neg (show ¬ nI 1 = 0 by decide), f_X1_secondsToCool_1, h1.2.1, p_coolings (by omega) k12.2.2, Option.bind_some, fin _ (ct_le _ _ _)]
        rfl
  · rw [is01_f c1, if_neg c1, Option.bind_some, Option.bind_some, if_pos rfl, if_pos rfl]
    exact ⟨_, rfl, rfl⟩
/-! copies; wouldTake -/
theorem r_copies_L {A : Nat → Int32} : ∀ (m i fuel : Nat) (C : Nat → Int32), i + m = 631 → m < fuel → ∃ C', f_X8_copies_L2 A fuel (nI i) C = some C' ∧ (∀ k, i ≤ k → k < 631 → C' k = A k) ∧ ∀ k, k < i → C' k = C k := by
  intro m
  induction m with
  | zero =>
    intro i fuel C hi hf
    obtain ⟨fu, rfl⟩ : ∃ fu, fuel = fu + 1 := ⟨fuel - 1, by omega⟩
    rw [f_X8_copies_L2, if_pos (show (631 : Int32) ≤ nI i from nI_le (a := 631) (by omega) (by omega))]
    exact ⟨C, rfl, fun k h1 h2 => absurd h2 (by omega), fun k _ => rfl⟩
  | succ m ih =>
    intro i fuel C hi hf
    obtain ⟨fu, rfl⟩ : ∃ fu, fuel = fu + 1 := ⟨fuel - 1, by omega⟩
    obtain ⟨C', a1, a2, a3⟩ := ih (i + 1) fu (upd C i (A i)) (by omega) (by omega)
    have hg := nI_in (c := i) (N := 631) (by omega) (by decide)
    refine ⟨C', ?_, ?_, ?_⟩
    · rw [f_X8_copies_L2, if_neg (show ¬ (631 : Int32) ≤ nI i from nI_ge (b := 631) (by omega) (by decide)), gd_t hg, lt_v, gd_t hg, lt_v, lt_v, v_cl (by omega), nI_1, a1]
    · intro k h1 h2
      by_cases e : k = i
      · subst e
        rw [a3 _ (by omega), pk_us]
      · exact a2 k (by omega) h2
    · intro k hk
      rw [a3 k (by omega), pk_un (by omega)]
theorem r_copies (A C : Nat → Int32) : ∃ C', f_X8_copies A C = some C' ∧ ∀ k, k < 631 → C' k = A k := by
  obtain ⟨C', a1, a2, -⟩ := r_copies_L (A := A) 631 0 FU C (by omega) (by show 631 < 20000; omega)
  exact ⟨C', a1, fun k hk => a2 k (Nat.zero_le _) hk⟩
noncomputable def a_would (x1 x2 : Int32) (σ : Sp) : Int32 := if 0 ≤ a_grind x1 x2 (v_lo σ) (v_ch σ) (v_ba σ) (v_st σ 2) then a_shot (v_st σ) (v_ba (o_grind (nx x1) (nx x2) σ)) else a_grind x1 x2 (v_lo σ) (v_ch σ) (v_ba σ) (v_st σ 2)
theorem p_would {σ : Sp} {gN gS : Gr} {B nw sp : Nat} (hg : GR σ gN) (hk : KK σ B) (hB : B < 2 ^ 28) (x1 x2 : Int32) : ∃ R, f_X7_wouldTake x1 x2 nw sp gN gS = some R ∧ R.1 = a_would x1 x2 σ := by
  obtain ⟨g1, e1, h1⟩ := G_copyFrom hg hk gS
  obtain ⟨R2, e2, h2, h3⟩ := G_grindBy h1 hk hB x1 x2
  rw [f_X7_wouldTake, f_X7_spareLikeNow, e1, Option.bind_some, Option.bind_some, e2, Option.bind_some]
  unfold a_would
  by_cases c : 0 ≤ R2.1
  · have hK := K_grind hk (h2 ▸ c)
    rw [if_pos c, G_time (h3 c) hK, Option.bind_some, if_pos (h2 ▸ c)]
    exact ⟨_, rfl, rfl⟩
  · rw [if_neg c, if_neg (h2 ▸ c)]
    exact ⟨_, rfl, h2⟩
theorem r_would {σ : Sp} {S Tr : Nat → Int32} {B : Nat} (hm : MR σ S) (hk : KK σ B) (x1 x2 : Int32) : ∃ R, f_X8_wouldTake x1 x2 S Tr = some R ∧ R.1 = a_would x1 x2 σ ∧ MR σ R.2.1 := by
  rw [f_X8_wouldTake, r_couldGrind hm hk, Option.bind_some]
  unfold a_would
  by_cases c : 0 ≤ a_grind x1 x2 (v_lo σ) (v_ch σ) (v_ba σ) (v_st σ 2)
  · have hK := K_grind hk c
    rw [if_pos c, if_pos c]
    obtain ⟨g1, g2, g3, g4⟩ := agrind_ok c
    obtain ⟨e1, e2, e3, e4, e5⟩ := b2_no (by decide) g1
    have hgo : g_out (v_ch σ) (nx x2) (v_st σ 2) ≤ 500 := by
      have := hk.2.2.2.2.2.2.1
      unfold g_out; omega
    have hto : tot (v_ba (o_grind (nx x1) (nx x2) σ)) = tot (v_ba σ) + g_out (v_ch σ) (nx x2) (v_st σ 2) := by
      show tot (v_ba σ ++ (tk _ _).1) = _
      rw [tot_app, (tk_tot _ _).1, g_in_tot g2]
      unfold g_out; omega
    have hem : tot (v_ba σ) = 0 ↔ (v_ba σ).length = 0 := by
      have := len_tot hk.2.2.2.2.2.2.2.1
      constructor
      · intro q; omega
      · intro q; rw [List.length_eq_zero_iff.mp q]; rfl
    have h145 : S (145 : Int32).toNatClampNeg = nI (v_ba σ).length := hm.2.2.2.2.1.1
    have hlen : (v_ba σ).length ≤ 400 := Nat.le_trans (len_tot hk.2.2.2.2.2.2.2.1) hk.2.2.2.2.2.2.2.2.2.1
    have run : tot (v_ba (o_grind (nx x1) (nx x2) σ)) ≠ 0 → ∃ R, f_X8_wouldTake_J31 x1 x2 S Tr = some R ∧ R.1 = a_shot (v_st σ) (v_ba (o_grind (nx x1) (nx x2) σ)) ∧ MR σ R.2.1 := by
      intro hne
      obtain ⟨S1, a1, a2, a3, a4, a5, a6, a7, a8⟩ := r_grinds hm hk e1 e2 e3 g2 g3
      rw [← e4, ← e5] at a1
      obtain ⟨C1, b1, b2⟩ := r_copies S Tr
      obtain ⟨C2, b3, b4⟩ := r_copies C1 S1
      have hst : stM (v_st σ) S1 := hm.2.2.2.2.2.2.2.1.of (fun i i1 i2 => a8 i (by omega) (by omega) (by omega) (by omega))
      obtain ⟨j1, j2, j3, j4, j5, j6, j7, j8, j9, j10, j11, j12, j13, j14⟩ := hK
      have ht := r_time (L := v_ba (o_grind (nx x1) (nx x2) σ)) a4 hst j13 j8 j9 j10 (by omega)
      rw [f_X8_wouldTake_J31, b1, Option.bind_some, a1, Option.bind_some, ht, Option.bind_some, b3, Option.bind_some]
      refine ⟨_, rfl, ?_, hm.of hk (fun i hi => (b4 i (by omega)).trans (b2 i (by omega)))⟩
      unfold a_shot
      rw [if_neg hne]
    rw [g4]
    by_cases c2 : g_out (v_ch σ) (nx x2) (v_st σ 2) = 0
    · rw [if_pos (by rw [c2]; exact nI_0), h145]
      by_cases c3 : (v_ba σ).length = 0
      · rw [if_pos (by rw [c3]; exact nI_0)]
        refine ⟨_, rfl, ?_, hm⟩
        unfold a_shot
        rw [if_pos (by rw [hto, c2, hem.mpr c3])]
      · rw [if_neg (nI_ne0 (by omega) (by omega))]
        exact run (by rw [hto]; intro q; exact c3 (hem.mp (by omega)))
    · rw [if_neg (nI_ne0 (by omega) (by omega))]
      exact run (by rw [hto]; omega)
  · rw [if_neg c, if_neg c]
    exact ⟨_, rfl, rfl, hm⟩
end
section
/-! the text's orders: what is read -/
def chT (tx : List Nat) (i : Nat) : Nat := tx.getD i 0
theorem chT_out {tx : List Nat} {i : Nat} (h : tx.length ≤ i) : chT tx i = 0 := by
  unfold chT
  rw [List.getD_eq_getElem?_getD, List.getElem?_eq_none h]
  rfl
theorem chT_in {tx : List Nat} {sg : Nat → Int32} {n : Int32} (h : TX tx sg n) {i : Nat} (hi : i < tx.length) : sg i = nI (chT tx i) ∧ 32 ≤ chT tx i ∧ chT tx i ≤ 126 := by
  refine ⟨h.2.2.2 i hi, ?_⟩
  unfold chT
  rw [List.getD_eq_getElem?_getD, List.getElem?_eq_getElem hi]
  exact h.2.2.1 _ (List.getElem_mem hi)
theorem chT_le {tx : List Nat} {sg : Nat → Int32} {n : Int32} (h : TX tx sg n) (i : Nat) : chT tx i ≤ 126 := by
  rcases Nat.lt_or_ge i tx.length with q | q
  · exact (chT_in h q).2.2
  · rw [chT_out q]; omega
theorem chT_pos {tx : List Nat} {i : Nat} (h : chT tx i ≠ 0) : i < tx.length := by
  rcases Nat.lt_or_ge i tx.length with q | q
  · exact q
  · exact absurd (chT_out q) h
/-- a number: at most k digits from i on, v so far: the number, the place behind it -/
def rn (tx : List Nat) : Nat → Nat → Nat → Nat × Nat
  | 0, i, v => (v, i)
  | k + 1, i, v => if 48 ≤ chT tx i ∧ chT tx i ≤ 57 then rn tx k (i + 1) (10 * v + (chT tx i - 48)) else (v, i)
theorem rn_ge (tx : List Nat) : ∀ (k i v : Nat), i ≤ (rn tx k i v).2 ∧ (rn tx k i v).2 ≤ i + k ∧ ((rn tx k i v).2 = i → (rn tx k i v).1 = v) ∧ ((rn tx k i v).2 ≠ i → (rn tx k i v).2 ≤ tx.length)
  | 0, i, v => ⟨Nat.le_refl _, Nat.le_refl _, fun _ => rfl, fun h => absurd rfl h⟩
  | k + 1, i, v => by
    rw [rn]
    by_cases c : 48 ≤ chT tx i ∧ chT tx i ≤ 57
    · rw [if_pos c]
      have h := rn_ge tx k (i + 1) (10 * v + (chT tx i - 48))
      have hp := chT_pos (tx := tx) (i := i) (by omega)
      refine ⟨by omega, by omega, fun q => by omega, fun _ => ?_⟩
      by_cases e : (rn tx k (i + 1) (10 * v + (chT tx i - 48))).2 = i + 1
      · omega
      · exact h.2.2.2 e
    · rw [if_neg c]
      exact ⟨Nat.le_refl _, by show i ≤ i + (k + 1); omega, fun _ => rfl, fun h => absurd rfl h⟩
theorem rn_lt (tx : List Nat) : ∀ (k i v : Nat), (rn tx k i v).1 < (v + 1) * 10 ^ k
  | 0, i, v => by show v < (v + 1) * 1; omega
  | k + 1, i, v => by
    rw [rn]
    have hp : 0 < 10 ^ k := Nat.pow_pos (by decide)
    by_cases c : 48 ≤ chT tx i ∧ chT tx i ≤ 57
    · rw [if_pos c]
      have h := rn_lt tx k (i + 1) (10 * v + (chT tx i - 48))
      have h2 : (10 * v + (chT tx i - 48) + 1) * 10 ^ k ≤ ((v + 1) * 10) * 10 ^ k := Nat.mul_le_mul (by omega) (Nat.le_refl _)
      rw [Nat.pow_succ, Nat.mul_comm (10 ^ k) 10, ← Nat.mul_assoc]
      omega
    · rw [if_neg c]
      show v < (v + 1) * 10 ^ (k + 1)
      have h2 : (v + 1) * 1 ≤ (v + 1) * 10 ^ (k + 1) := Nat.mul_le_mul (Nat.le_refl _) (Nat.pow_pos (by decide))
      omega
theorem rn3 (tx : List Nat) (i : Nat) : (rn tx 3 i 0).1 ≤ 999 := by
  have := rn_lt tx 3 i 0
  omega
/-- an order from i on: what it is (letter and numbers) if it is of the form; where it breaks off, or the place behind it -/
def rd (tx : List Nat) (i : Nat) : Option (Nat × Nat × Nat) × Nat :=
  if chT tx i = 98 ∨ chT tx i = 102 ∨ chT tx i = 103 then
    if (rn tx 3 (i + 1) 0).2 = i + 1 then (none, i + 1)
    else if chT tx (rn tx 3 (i + 1) 0).2 = 44 then
      if (rn tx 3 ((rn tx 3 (i + 1) 0).2 + 1) 0).2 = (rn tx 3 (i + 1) 0).2 + 1 then (none, (rn tx 3 (i + 1) 0).2 + 1)
      else if chT tx (rn tx 3 ((rn tx 3 (i + 1) 0).2 + 1) 0).2 = 59 then (some (chT tx i, (rn tx 3 (i + 1) 0).1, (rn tx 3 ((rn tx 3 (i + 1) 0).2 + 1) 0).1), (rn tx 3 ((rn tx 3 (i + 1) 0).2 + 1) 0).2 + 1)
      else (none, (rn tx 3 ((rn tx 3 (i + 1) 0).2 + 1) 0).2)
    else (none, (rn tx 3 (i + 1) 0).2)
  else if chT tx i = 112 ∨ chT tx i = 115 then
    if chT tx (i + 1) = 59 then (some (chT tx i, 0, 0), i + 2) else (none, i + 1)
  else if chT tx i = 119 then
    if (rn tx 3 (i + 1) 0).2 = i + 1 then (none, i + 1)
    else if chT tx (rn tx 3 (i + 1) 0).2 = 59 then (some (chT tx i, (rn tx 3 (i + 1) 0).1, 0), (rn tx 3 (i + 1) 0).2 + 1)
    else (none, (rn tx 3 (i + 1) 0).2)
  else (none, i)
theorem p_sign {tx : List Nat} {sg : Nat → Int32} {oL : Int32} (h : TX tx sg oL) {i : Nat} (hi : i < 2 ^ 31) : f_X4_signHere sg oL (nI i) = some (nI (chT tx i)) := by
  have hlen := h.2.1
  rw [f_X4_signHere, if_neg (nI_pos hi), h.1]
  by_cases c : i < tx.length
  · obtain ⟨e1, e2, e3⟩ := chT_in h c
    rw [if_neg (nI_ge c (by omega)), if_pos (show nI i < (60 : Int32) from nI_lt (b := 60) (by omega) (by decide)), gd_t (nI_in (by omega) (by decide)), v_cl hi, lt_v, e1, gd_t ⟨nI_pos (by omega), by rw [v_cl (by omega)]; omega⟩]
  · rw [if_pos (nI_le (by omega) hi), chT_out (by omega)]
    rfl
theorem p_passSign {tx : List Nat} {sg : Nat → Int32} {oL : Int32} (h : TX tx sg oL) {i c : Nat} (hi : i < 2 ^ 30) (hc : c < 2 ^ 30) : f_X4_passSign (nI c) sg oL (nI i) = some (if chT tx i = c then (1, nI (i + 1)) else (0, nI i)) := by
  have := chT_le h i
  rw [f_X4_passSign, p_sign h (by omega), Option.bind_some]
  by_cases q : chT tx i = c
  · rw [if_pos (congrArg nI q), if_pos q, lt_v, nI_1]
  · rw [if_neg (fun z => q ((nI_eq (by omega) (by omega)).mp z)), if_neg q]
theorem p_isDigit {c : Nat} (h : c < 2 ^ 31) : f_X4_isDigit (nI c) = some (if 48 ≤ c ∧ c ≤ 57 then 1 else 0) := by
  rw [f_X4_isDigit]
  by_cases c1 : c < 48
  · rw [if_pos (show nI c < (48 : Int32) from nI_lt (b := 48) c1 (by decide)), if_neg (by omega)]
  · rw [if_neg (show ¬ nI c < (48 : Int32) from nI_nlt (b := 48) (by omega) h)]
    by_cases c2 : 57 < c
    · rw [if_pos (show (57 : Int32) < nI c from nI_lt (a := 57) c2 h), if_neg (by omega)]
    · rw [if_neg (show ¬ (57 : Int32) < nI c from nI_nlt (a := 57) (by omega) (by decide)), if_pos (by omega)]
theorem p_num_L {tx : List Nat} {sg : Nat → Int32} {oL : Int32} (h : TX tx sg oL) : ∀ (k d i v fuel : Nat) (y : Int32), d + k = 3 → k < fuel → i + k < 2 ^ 20 → v < 10 ^ d → (if (0 : Int32) < y then y else 0) = nI v → f_X4_readNumber_L4 sg oL fuel y (nI d) (nI i) = some (if (rn tx k i v).2 = i then y else nI (rn tx k i v).1, nI (rn tx k i v).2) := by
  intro k
  induction k with
  | zero =>
    intro d i v fuel y hd hf hi hv hy
    obtain ⟨fu, rfl⟩ : ∃ fu, fuel = fu + 1 := ⟨fuel - 1, by omega⟩
    rw [f_X4_readNumber_L4, if_pos (show (3 : Int32) ≤ nI d from nI_le (a := 3) (by omega) (by omega))]
    show some (y, nI i) = some (if i = i then y else nI v, nI i)
    rw [if_pos rfl]
  | succ k ih =>
    intro d i v fuel y hd hf hi hv hy
    obtain ⟨fu, rfl⟩ : ∃ fu, fuel = fu + 1 := ⟨fuel - 1, by omega⟩
    have hc := chT_le h i
    have hv3 : v < 1000 := Nat.lt_of_lt_of_le hv (Nat.pow_le_pow_right (by decide) (by omega : d ≤ 3))
    rw [f_X4_readNumber_L4, if_neg (show ¬ (3 : Int32) ≤ nI d from nI_ge (b := 3) (by omega) (by decide)), p_sign h (by omega), Option.bind_some, p_isDigit (by omega), Option.bind_some, rn]
    by_cases c : 48 ≤ chT tx i ∧ chT tx i ≤ 57
    · have g := rn_ge tx k (i + 1) (10 * v + (chT tx i - 48))
      have hv' : 10 * v + (chT tx i - 48) < 10 ^ (d + 1) := by
        rw [Nat.pow_succ]
        omega
      have hpos : (if (0 : Int32) < nI (10 * v + (chT tx i - 48)) then nI (10 * v + (chT tx i - 48)) else 0) = nI (10 * v + (chT tx i - 48)) := by
        by_cases z : 10 * v + (chT tx i - 48) = 0
        · rw [z]; rfl
        · rw [if_pos (show (0 : Int32) < _ from nI_lt (a := 0) (by omega) (by omega))]
      have ih' := ih (d + 1) (i + 1) (10 * v + (chT tx i - 48)) fu (nI (10 * v + (chT tx i - 48))) (by omega) (by omega) (by omega) hv' hpos
      rw [if_pos c, if_neg n10, hy, lt_v, Option.bind_some, fa_lit 10, pk_mul, fa_lit 48, pk_sub c.1, nI_add, lt_v, lt_v, lt_v, nI_1, nI_1, Nat.mul_comm v 10, ih', if_pos c, if_neg (show ¬ (rn tx k (i + 1) (10 * v + (chT tx i - 48))).2 = i by omega)]
      by_cases e : (rn tx k (i + 1) (10 * v + (chT tx i - 48))).2 = i + 1
      · rw [if_pos e, g.2.2.1 e]
      · rw [if_neg e]
    · rw [if_neg c, if_pos rfl, if_neg c]
      show some (y, nI i) = some (if i = i then y else nI v, nI i)
      rw [if_pos rfl]
theorem p_num {tx : List Nat} {sg : Nat → Int32} {oL : Int32} (h : TX tx sg oL) {i : Nat} (hi : i < 2 ^ 19) : f_X4_readNumber sg oL (nI i) = some (if (rn tx 3 i 0).2 = i then -1 else nI (rn tx 3 i 0).1, nI (rn tx 3 i 0).2) := by
  have := p_num_L h 3 0 i 0 FU (-1) (by omega) (by show 3 < 20000; omega) (by omega) (by decide) (by decide)
  rw [f_X4_readNumber]
  exact this
theorem nI_m1 {n : Nat} (h : n < 2 ^ 31) : ¬ nI n = (-1 : Int32) := fun q => by
  have := nI_pos' h
  rw [q] at this
  exact absurd this (by decide)
theorem p_first {tx : List Nat} {sg : Nat → Int32} {oL : Int32} (h : TX tx sg oL) {i : Nat} (hi : i < 2 ^ 19) (oF : Int32) : ∃ z, f_X4_readFirstNumber sg oL (nI i) oF = some (if (rn tx 3 i 0).2 = i then 0 else 1, nI (rn tx 3 i 0).2, z) ∧ ((rn tx 3 i 0).2 ≠ i → z = nI (rn tx 3 i 0).1) := by
  have h9 := rn3 tx i
  rw [f_X4_readFirstNumber, p_num h hi, Option.bind_some]
  by_cases e : (rn tx 3 i 0).2 = i
  · rw [if_pos e, if_pos e, if_pos rfl]
    exact ⟨_, rfl, fun q => absurd e q⟩
  · rw [if_neg e, if_neg e, if_neg (nI_m1 (by omega))]
    exact ⟨_, rfl, fun _ => rfl⟩
theorem p_second {tx : List Nat} {sg : Nat → Int32} {oL : Int32} (h : TX tx sg oL) {i : Nat} (hi : i < 2 ^ 19) (oS : Int32) : ∃ z, f_X4_readSecondNumber sg oL (nI i) oS = some (if (rn tx 3 i 0).2 = i then 0 else 1, nI (rn tx 3 i 0).2, z) ∧ ((rn tx 3 i 0).2 ≠ i → z = nI (rn tx 3 i 0).1) := p_first h hi oS
/-- what is known of an order that was read: its letter; the numbers that it has -/
def ordK (o : Nat × Nat × Nat) (c a b : Int32) : Prop := c = nI o.1 ∧ o.2.1 ≤ 999 ∧ o.2.2 ≤ 999 ∧ (((o.1 = 98 ∨ o.1 = 102 ∨ o.1 = 103) ∧ a = nI o.2.1 ∧ b = nI o.2.2) ∨ (o.1 = 119 ∧ a = nI o.2.1) ∨ o.1 = 112 ∨ o.1 = 115)
def rdK (r : Option (Nat × Nat × Nat) × Nat) (f at' c a b : Int32) : Prop := at' = nI r.2 ∧ ((r.1 = none ∧ f = 0) ∨ ∃ o, r.1 = some o ∧ f = 1 ∧ ordK o c a b)
theorem p_two {tx : List Nat} {sg : Nat → Int32} {oL : Int32} (h : TX tx sg oL) {i : Nat} (hi : i < 1000) (c : chT tx i = 98 ∨ chT tx i = 102 ∨ chT tx i = 103) (oF oS : Int32) : ∃ R, lt (nI i + (1 : Int32)) (fun v4 => (f_X4_readFirstNumber sg oL v4 oF).bind fun q5 => (if q5.1 = 0 then some ((0 : Int32), q5.2.1, nI (chT tx i), q5.2.2, oS) else (f_X4_passSign (44 : Int32) sg oL q5.2.1).bind fun q7 => (if q7.1 = 0 then some ((0 : Int32), q7.2, nI (chT tx i), q5.2.2, oS) else (f_X4_readSecondNumber sg oL q7.2 oS).bind fun q9 => (if q9.1 = 0 then some ((0 : Int32), q9.2.1, nI (chT tx i), q5.2.2, q9.2.2) else (f_X4_passSign (59 : Int32) sg oL q9.2.1).bind fun q11 => (if q11.1 = 0 then some ((0 : Int32), q11.2, nI (chT tx i), q5.2.2, q9.2.2) else some ((1 : Int32), q11.2, nI (chT tx i), q5.2.2, q9.2.2)))))) = some R ∧ rdK (rd tx i) R.1 R.2.1 R.2.2.1 R.2.2.2.1 R.2.2.2.2 := by
  have g1 := rn_ge tx 3 (i + 1) 0
  have g2 := rn_ge tx 3 ((rn tx 3 (i + 1) 0).2 + 1) 0
  have b1 := rn3 tx (i + 1)
  have b2 := rn3 tx ((rn tx 3 (i + 1) 0).2 + 1)
  obtain ⟨z1, e1, f1⟩ := p_first h (i := i + 1) (by omega) oF
  obtain ⟨z2, e2, f2⟩ := p_second h (i := (rn tx 3 (i + 1) 0).2 + 1) (by omega) oS
  have s1 := p_passSign h (i := (rn tx 3 (i + 1) 0).2) (c := 44) (by omega) (by decide)
  have s2 := p_passSign h (i := (rn tx 3 ((rn tx 3 (i + 1) 0).2 + 1) 0).2) (c := 59) (by omega) (by decide)
  have s1' : f_X4_passSign (44 : Int32) sg oL (nI (rn tx 3 (i + 1) 0).2) = _ := s1
  have s2' : f_X4_passSign (59 : Int32) sg oL (nI (rn tx 3 ((rn tx 3 (i + 1) 0).2 + 1) 0).2) = _ := s2
  rw [lt_v, nI_1, e1, Option.bind_some]
  unfold rd
  rw [if_pos c]
  by_cases d1 : (rn tx 3 (i + 1) 0).2 = i + 1
  · rw [if_pos d1, if_pos d1, if_pos rfl, d1]
    exact ⟨_, rfl, rfl, Or.inl ⟨rfl, rfl⟩⟩
  · rw [if_neg d1, if_neg d1, if_neg n10, s1', Option.bind_some]
    by_cases d2 : chT tx (rn tx 3 (i + 1) 0).2 = 44
    · rw [if_pos d2, if_pos d2, if_neg n10, e2, Option.bind_some]
      by_cases d3 : (rn tx 3 ((rn tx 3 (i + 1) 0).2 + 1) 0).2 = (rn tx 3 (i + 1) 0).2 + 1
      · rw [if_pos d3, if_pos d3, if_pos rfl, d3]
        exact ⟨_, rfl, rfl, Or.inl ⟨rfl, rfl⟩⟩
      · rw [if_neg d3, if_neg d3, if_neg n10, s2', Option.bind_some]
        by_cases d4 : chT tx (rn tx 3 ((rn tx 3 (i + 1) 0).2 + 1) 0).2 = 59
        · rw [if_pos d4, if_pos d4, if_neg n10]
          exact ⟨_, rfl, rfl, Or.inr ⟨_, rfl, rfl, rfl, b1, b2, Or.inl ⟨c, f1 d1, f2 d3⟩⟩⟩
        · rw [if_neg d4, if_neg d4, if_pos rfl]
          exact ⟨_, rfl, rfl, Or.inl ⟨rfl, rfl⟩⟩
    · rw [if_neg d2, if_neg d2, if_pos rfl]
      exact ⟨_, rfl, rfl, Or.inl ⟨rfl, rfl⟩⟩
theorem p_none {tx : List Nat} {sg : Nat → Int32} {oL : Int32} (h : TX tx sg oL) {i : Nat} (hi : i < 1000) (c : chT tx i = 112 ∨ chT tx i = 115) (oF oS : Int32) : ∃ R, lt (nI i + (1 : Int32)) (fun v34 => (f_X4_passSign (59 : Int32) sg oL v34).bind fun q35 => gd (q35.1 = 0 ∨ q35.1 = 1) (some (q35.1, q35.2, nI (chT tx i), oF, oS))) = some R ∧ rdK (rd tx i) R.1 R.2.1 R.2.2.1 R.2.2.2.1 R.2.2.2.2 := by
  have s1 := p_passSign h (i := i + 1) (c := 59) (by omega) (by decide)
  have s1' : f_X4_passSign (59 : Int32) sg oL (nI (i + 1)) = _ := s1
  rw [lt_v, nI_1, s1', Option.bind_some]
  unfold rd
  rw [if_neg (show ¬ (chT tx i = 98 ∨ chT tx i = 102 ∨ chT tx i = 103) by omega), if_pos c]
  by_cases d1 : chT tx (i + 1) = 59
  · rw [if_pos d1, if_pos d1, gd_t (Or.inr rfl)]
    exact ⟨_, rfl, rfl, Or.inr ⟨_, rfl, rfl, rfl, Nat.zero_le _, Nat.zero_le _, Or.inr (Or.inr c)⟩⟩
  · rw [if_neg d1, if_neg d1, gd_t (Or.inl rfl)]
    exact ⟨_, rfl, rfl, Or.inl ⟨rfl, rfl⟩⟩
theorem p_rd {tx : List Nat} {sg : Nat → Int32} {oL : Int32} (h : TX tx sg oL) {i : Nat} (hi : i < 1000) (oC oF oS : Int32) : ∃ R, f_X4_readOrder sg oL (nI i) oC oF oS = some R ∧ rdK (rd tx i) R.1 R.2.1 R.2.2.1 R.2.2.2.1 R.2.2.2.2 := by
  have hc := chT_le h i
  have ne : ∀ n : Nat, n < 2 ^ 31 → chT tx i ≠ n → ¬ nI (chT tx i) = nI n := fun n hn q z => q ((nI_eq (by omega) hn).mp z)
  rw [f_X4_readOrder, p_sign h (by omega), Option.bind_some, gd_t ⟨nI_pos (by omega), by rw [v_cl (by omega)]; omega⟩]
  by_cases c1 : chT tx i = 98
  · rw [if_pos (show nI (chT tx i) = (98 : Int32) from congrArg nI c1)]
    exact p_two h hi (Or.inl c1) oF oS
  rw [if_neg (show ¬ nI (chT tx i) = (98 : Int32) from ne 98 (by decide) c1)]
  by_cases c2 : chT tx i = 102
  · rw [if_pos (show nI (chT tx i) = (102 : Int32) from congrArg nI c2)]
    exact p_two h hi (Or.inr (Or.inl c2)) oF oS
  rw [if_neg (show ¬ nI (chT tx i) = (102 : Int32) from ne 102 (by decide) c2)]
  by_cases c3 : chT tx i = 103
  · rw [if_pos (show nI (chT tx i) = (103 : Int32) from congrArg nI c3)]
    exact p_two h hi (Or.inr (Or.inr c3)) oF oS
  rw [if_neg (show ¬ nI (chT tx i) = (103 : Int32) from ne 103 (by decide) c3)]
  by_cases c4 : chT tx i = 112
  · rw [if_pos (show nI (chT tx i) = (112 : Int32) from congrArg nI c4)]
    exact p_none h hi (Or.inl c4) oF oS
  rw [if_neg (show ¬ nI (chT tx i) = (112 : Int32) from ne 112 (by decide) c4)]
  by_cases c5 : chT tx i = 115
  · rw [if_pos (show nI (chT tx i) = (115 : Int32) from congrArg nI c5)]
    exact p_none h hi (Or.inr c5) oF oS
  rw [if_neg (show ¬ nI (chT tx i) = (115 : Int32) from ne 115 (by decide) c5)]
  unfold rd
  rw [if_neg (show ¬ (chT tx i = 98 ∨ chT tx i = 102 ∨ chT tx i = 103) by omega), if_neg (show ¬ (chT tx i = 112 ∨ chT tx i = 115) by omega)]
  by_cases c6 : chT tx i = 119
  · have g1 := rn_ge tx 3 (i + 1) 0
    have b1 := rn3 tx (i + 1)
    obtain ⟨z1, e1, f1⟩ := p_first h (i := i + 1) (by omega) oF
    have s1 := p_passSign h (i := (rn tx 3 (i + 1) 0).2) (c := 59) (by omega) (by decide)
    have s1' : f_X4_passSign (59 : Int32) sg oL (nI (rn tx 3 (i + 1) 0).2) = _ := s1
    rw [if_pos (show nI (chT tx i) = (119 : Int32) from congrArg nI c6), if_pos c6, lt_v, nI_1, e1, Option.bind_some]
    by_cases d1 : (rn tx 3 (i + 1) 0).2 = i + 1
    · rw [if_pos d1, if_pos d1, if_pos rfl, d1]
      exact ⟨_, rfl, rfl, Or.inl ⟨rfl, rfl⟩⟩
    · rw [if_neg d1, if_neg d1, if_neg n10, s1', Option.bind_some]
      by_cases d2 : chT tx (rn tx 3 (i + 1) 0).2 = 59
      · rw [if_pos d2, if_pos d2, if_neg n10]
        exact ⟨_, rfl, rfl, Or.inr ⟨_, rfl, rfl, rfl, b1, Nat.zero_le _, Or.inr (Or.inl ⟨c6, f1 d1⟩)⟩⟩
      · rw [if_neg d2, if_neg d2, if_pos rfl]
        exact ⟨_, rfl, rfl, Or.inl ⟨rfl, rfl⟩⟩
  · rw [if_neg (show ¬ nI (chT tx i) = (119 : Int32) from ne 119 (by decide) c6), if_neg c6]
    exact ⟨_, rfl, rfl, Or.inl ⟨rfl, rfl⟩⟩
/-- an order that was read moves on by two at least, and not beyond the text -/
theorem rd_mv {tx : List Nat} {i : Nat} {o : Nat × Nat × Nat} (h : (rd tx i).1 = some o) : i + 2 ≤ (rd tx i).2 ∧ (rd tx i).2 ≤ tx.length := by
  have g1 := rn_ge tx 3 (i + 1) 0
  have g2 := rn_ge tx 3 ((rn tx 3 (i + 1) 0).2 + 1) 0
  unfold rd at h ⊢
  by_cases c1 : chT tx i = 98 ∨ chT tx i = 102 ∨ chT tx i = 103
  · rw [if_pos c1] at h ⊢
    by_cases d1 : (rn tx 3 (i + 1) 0).2 = i + 1
    · rw [if_pos d1] at h; cases h
    · rw [if_neg d1] at h ⊢
      by_cases d2 : chT tx (rn tx 3 (i + 1) 0).2 = 44
      · rw [if_pos d2] at h ⊢
        by_cases d3 : (rn tx 3 ((rn tx 3 (i + 1) 0).2 + 1) 0).2 = (rn tx 3 (i + 1) 0).2 + 1
        · rw [if_pos d3] at h; cases h
        · rw [if_neg d3] at h ⊢
          by_cases d4 : chT tx (rn tx 3 ((rn tx 3 (i + 1) 0).2 + 1) 0).2 = 59
          · rw [if_pos d4]
            have := chT_pos (tx := tx) (i := (rn tx 3 ((rn tx 3 (i + 1) 0).2 + 1) 0).2) (by omega)
            exact ⟨by show i + 2 ≤ _ + 1; omega, this⟩
          · rw [if_neg d4] at h; cases h
      · rw [if_neg d2] at h; cases h
  · rw [if_neg c1] at h ⊢
    by_cases c2 : chT tx i = 112 ∨ chT tx i = 115
    · rw [if_pos c2] at h ⊢
      by_cases d1 : chT tx (i + 1) = 59
      · rw [if_pos d1]
        have := chT_pos (tx := tx) (i := i + 1) (by omega)
        exact ⟨Nat.le_refl _, this⟩
      · rw [if_neg d1] at h; cases h
    · rw [if_neg c2] at h ⊢
      by_cases c3 : chT tx i = 119
      · rw [if_pos c3] at h ⊢
        by_cases d1 : (rn tx 3 (i + 1) 0).2 = i + 1
        · rw [if_pos d1] at h; cases h
        · rw [if_neg d1] at h ⊢
          by_cases d2 : chT tx (rn tx 3 (i + 1) 0).2 = 59
          · rw [if_pos d2]
            have := chT_pos (tx := tx) (i := (rn tx 3 (i + 1) 0).2) (by omega)
            exact ⟨by show i + 2 ≤ _ + 1; omega, this⟩
          · rw [if_neg d2] at h; cases h
      · rw [if_neg c3] at h; cases h
theorem rd_le (tx : List Nat) (i : Nat) : i ≤ (rd tx i).2 ∧ (rd tx i).2 ≤ i + 10 := by
  have g1 := rn_ge tx 3 (i + 1) 0
  have g2 := rn_ge tx 3 ((rn tx 3 (i + 1) 0).2 + 1) 0
  unfold rd
  repeat' split
  all_goals (simp only; omega)
end
section
/-! the reference reads orders -/
theorem r_isAt {tx : List Nat} {Tx : Nat → Int32} {typed : Int32} (h : TX tx Tx typed) {i a b : Nat} (hi : i < 2 ^ 31) (ha : 1 ≤ a) (ha2 : a < 2 ^ 31) (hb : b < 2 ^ 31) : f_X8_isAt (nI a) (nI b) Tx typed (nI i) = some (if a ≤ chT tx i ∧ chT tx i ≤ b then 1 else 0) := by
  have hlen := h.2.1
  rw [f_X8_isAt, h.1]
  by_cases c : i < tx.length
  · obtain ⟨e1, e2, e3⟩ := chT_in h c
    rw [if_neg (nI_ge c (by omega)), gd_t (nI_in (by omega) (by decide)), v_cl hi, e1, r_in, Option.bind_some]
    by_cases d1 : chT tx i < a
    · rw [if_pos (Or.inl (nI_lt d1 ha2)), if_pos rfl, if_neg (by omega)]
    · by_cases d2 : b < chT tx i
      · rw [if_pos (Or.inr (nI_lt d2 (by omega))), if_pos rfl, if_neg (by omega)]
      · rw [if_neg (show ¬ (nI (chT tx i) < nI a ∨ nI b < nI (chT tx i)) from fun q => by rcases q with q | q; exact nI_nlt (by omega) (by omega) q; exact nI_nlt (by omega) hb q), if_neg n10, if_pos (by omega)]
  · rw [if_pos (nI_le (by omega) hi), chT_out (by omega), if_neg (by omega)]
theorem r_sign {tx : List Nat} {Tx : Nat → Int32} {typed : Int32} (h : TX tx Tx typed) {i c : Nat} (hi : i < 2 ^ 30) (hc0 : 1 ≤ c) (hc : c < 2 ^ 30) : f_X8_sign (nI c) Tx typed (nI i) = some (if chT tx i = c then (1, nI (i + 1)) else (0, nI i)) := by
  rw [f_X8_sign, r_isAt h (by omega) hc0 (by omega) (by omega), Option.bind_some]
  by_cases q : chT tx i = c
  · rw [if_pos (show c ≤ chT tx i ∧ chT tx i ≤ c by omega), if_neg n10, f_X8_sign_J21, lt_v, gd_t (Or.inr rfl), nI_1, if_pos q]
  · rw [if_neg (show ¬ (c ≤ chT tx i ∧ chT tx i ≤ c) by omega), if_pos rfl, f_X8_sign_J21, lt_v, gd_t (Or.inl rfl), show nI i + (0 : Int32) = nI i from Int32.add_zero _, if_neg q]
theorem r_num_L {tx : List Nat} {Tx : Nat → Int32} {typed : Int32} (h : TX tx Tx typed) {w s : Nat} (hw : w < 2) : ∀ (k i v fuel : Nat) (told : Nat → Int32), i + k = s + 3 → k < fuel → i + k < 2 ^ 20 → s ≤ i → told w = nI v → v < 2 ^ 20 * 10 ^ (3 - k) → v < 1000 → (v < 10 ^ (3 - k)) → k ≤ 3 → ∃ told', f_X8_number_L12 Tx typed (nI w) (nI s) fuel told (nI i) = some (if (rn tx k i v).2 ≤ s then 0 else 1, told', nI (rn tx k i v).2) ∧ told' w = nI (rn tx k i v).1 ∧ ∀ j, j ≠ w → told' j = told j := by
  intro k
  have fin : ∀ (i : Nat) (told : Nat → Int32), i < 2 ^ 20 → s < 2 ^ 20 → f_X8_number_J74 Tx typed (nI s) told (nI i) = some (if i ≤ s then 0 else 1, told, nI i) := fun i told hi hs => by
    rw [f_X8_number_J74]
    by_cases c : i ≤ s
    · rw [if_pos (nI_le c (by omega)), if_pos c]
    · rw [if_neg (nI_ge (by omega) (by omega)), if_neg c]
  induction k with
  | zero =>
    intro i v fuel told hk hf hi hs hv _ hv2 hv3 _
    obtain ⟨fu, rfl⟩ : ∃ fu, fuel = fu + 1 := ⟨fuel - 1, by omega⟩
    have hc := chT_le h i
    have e := r_isAt h (i := i) (a := 48) (b := 57) (by omega) (by decide) (by decide) (by decide)
    have e' : f_X8_isAt (48 : Int32) (57 : Int32) Tx typed (nI i) = _ := e
    rw [f_X8_number_L12, e', Option.bind_some]
    refine ⟨told, ?_, hv, fun j _ => rfl⟩
    show _ = some (if i ≤ s then 0 else 1, told, nI i)
    by_cases c : 48 ≤ chT tx i ∧ chT tx i ≤ 57
    · rw [if_pos c, if_neg n10, pk_sub hs, if_pos (show (3 : Int32) ≤ nI (i - s) from nI_le (a := 3) (by omega) (by omega)), fin i told (by omega) (by omega)]
    · rw [if_neg c, if_pos rfl, fin i told (by omega) (by omega)]
  | succ k ih =>
    intro i v fuel told hk hf hi hs hv _ hv2 hv3 hk3
    obtain ⟨fu, rfl⟩ : ∃ fu, fuel = fu + 1 := ⟨fuel - 1, by omega⟩
    have hlen := h.2.1
    have hc := chT_le h i
    have e := r_isAt h (i := i) (a := 48) (b := 57) (by omega) (by decide) (by decide) (by decide)
    have e' : f_X8_isAt (48 : Int32) (57 : Int32) Tx typed (nI i) = _ := e
    rw [f_X8_number_L12, e', Option.bind_some, rn]
    by_cases c : 48 ≤ chT tx i ∧ chT tx i ≤ 57
    · have hp := chT_pos (tx := tx) (i := i) (by omega)
      have hex : 10 ^ (3 - k) = 10 ^ (3 - (k + 1)) * 10 := by rw [show 3 - k = 3 - (k + 1) + 1 by omega, Nat.pow_succ]
      have hle : 10 ^ (3 - k) ≤ 10 ^ 3 := Nat.pow_le_pow_right (by decide) (by omega)
      have hv' : 10 * v + (chT tx i - 48) < 10 ^ (3 - k) := by rw [hex]; omega
      have hv1 : 10 * v + (chT tx i - 48) < 1000 := Nat.lt_of_lt_of_le hv' hle
      have hv4 : 10 * v + (chT tx i - 48) < 2 ^ 20 * 10 ^ (3 - k) := Nat.lt_of_lt_of_le hv' (Nat.le_mul_of_pos_left _ (by decide))
      obtain ⟨told', a1, a2, a3⟩ := ih (i + 1) (10 * v + (chT tx i - 48)) fu (upd told w (nI (10 * v + (chT tx i - 48)))) (by omega) (by omega) (by omega) (by omega) pk_us hv4 hv1 hv' (by omega)
      refine ⟨told', ?_, ?_, fun j hj => (a3 j hj).trans (pk_un hj)⟩
      · have hgw := nI_in (c := w) (N := 2) hw (by decide)
        rw [if_pos c, if_neg n10, pk_sub hs, if_neg (show ¬ (3 : Int32) ≤ nI (i - s) from nI_ge (b := 3) (by omega) (by decide)), gd_t hgw, gd_t (nI_in (by omega) (by decide)), lt_v, gd_t hgw, lt_v, lt_v, v_cl (show w < 2 ^ 31 by omega), v_cl (show i < 2 ^ 31 by omega), hv, (chT_in h hp).1, fa_lit 10, pk_mul, nI_add, fa_lit 48, pk_sub (by omega), nI_1, show 10 * v + chT tx i - 48 = 10 * v + (chT tx i - 48) by omega, a1, if_pos c]
      · rw [if_pos c]; exact a2
    · rw [if_neg c, if_pos rfl, if_neg c]
      exact ⟨told, fin i told (by omega) (by omega), hv, fun j _ => rfl⟩
theorem r_num {tx : List Nat} {Tx : Nat → Int32} {typed : Int32} (h : TX tx Tx typed) {w i : Nat} (hw : w < 2) (hi : i < 2 ^ 19) (told : Nat → Int32) : ∃ told', f_X8_number (nI w) Tx told typed (nI i) = some (if (rn tx 3 i 0).2 = i then 0 else 1, told', nI (rn tx 3 i 0).2) ∧ told' w = nI (rn tx 3 i 0).1 ∧ ∀ j, j ≠ w → told' j = told j := by
  have g := rn_ge tx 3 i 0
  obtain ⟨told', a1, a2, a3⟩ := r_num_L h hw (s := i) 3 i 0 FU (upd told w (nI 0)) rfl (by show 3 < 20000; omega) (by omega) (Nat.le_refl _) pk_us (by decide) (by decide) (by decide) (Nat.le_refl _)
  refine ⟨told', ?_, a2, fun j hj => (a3 j hj).trans (pk_un hj)⟩
  have a1' : f_X8_number_L12 Tx typed (nI w) (nI i) FU (upd told w 0) (nI i) = _ := a1
  rw [f_X8_number, gd_t (nI_in hw (by decide)), lt_v, v_cl (by omega), a1']
  by_cases e : (rn tx 3 i 0).2 = i
  · rw [if_pos e, if_pos (by omega)]
  · rw [if_neg e, if_neg (by omega)]
theorem r_J154 {tx : List Nat} {Tx : Nat → Int32} {typed : Int32} (h : TX tx Tx typed) {i : Nat} (hi : i < 2 ^ 19) (told : Nat → Int32) (z : Int32) : f_X8_reads_J154 Tx typed told (nI i) z = some (if chT tx i = 59 then (1, told, nI (i + 1), z) else (0, told, nI i, z)) := by
  have s1 := r_sign h (i := i) (c := 59) (by omega) (by decide) (by decide)
  have s1' : f_X8_sign (59 : Int32) Tx typed (nI i) = _ := s1
  rw [f_X8_reads_J154, s1', Option.bind_some]
  by_cases c : chT tx i = 59
  · rw [if_pos c, if_pos c, if_neg n10]
  · rw [if_neg c, if_neg c, if_pos rfl]
theorem r_two {tx : List Nat} {Tx : Nat → Int32} {typed : Int32} (h : TX tx Tx typed) {i : Nat} (hi : i < 1000) (c : chT tx i = 98 ∨ chT tx i = 102 ∨ chT tx i = 103) (told : Nat → Int32) : ∃ R, f_X8_reads_J104 Tx typed 1 0 told (nI i) (nI (chT tx i)) = some R ∧ rdK (rd tx i) R.1 R.2.2.1 R.2.2.2 (R.2.1 0) (R.2.1 1) := by
  have g1 := rn_ge tx 3 (i + 1) 0
  have g2 := rn_ge tx 3 ((rn tx 3 (i + 1) 0).2 + 1) 0
  have b1 := rn3 tx (i + 1)
  have b2 := rn3 tx ((rn tx 3 (i + 1) 0).2 + 1)
  obtain ⟨t1, e1, f1, u1⟩ := r_num h (w := 0) (i := i + 1) (by decide) (by omega) told
  obtain ⟨t2, e2, f2, u2⟩ := r_num h (w := 1) (i := (rn tx 3 (i + 1) 0).2 + 1) (by decide) (by omega) t1
  have e1' : f_X8_number (0 : Int32) Tx told typed (nI (i + 1)) = _ := e1
  have e2' : f_X8_number (1 : Int32) Tx t1 typed (nI ((rn tx 3 (i + 1) 0).2 + 1)) = _ := e2
  have s1 := r_sign h (i := (rn tx 3 (i + 1) 0).2) (c := 44) (by omega) (by decide) (by decide)
  have s1' : f_X8_sign (44 : Int32) Tx typed (nI (rn tx 3 (i + 1) 0).2) = _ := s1
  rw [f_X8_reads_J104, lt_v, nI_1, if_pos rfl, e1', Option.bind_some]
  unfold rd
  rw [if_pos c]
  by_cases d1 : (rn tx 3 (i + 1) 0).2 = i + 1
  · rw [if_pos d1, if_pos d1, if_pos rfl, d1]
    exact ⟨_, rfl, rfl, Or.inl ⟨rfl, rfl⟩⟩
  · rw [if_neg d1, if_neg d1, if_neg n10, if_neg n10, s1', Option.bind_some]
    by_cases d2 : chT tx (rn tx 3 (i + 1) 0).2 = 44
    · rw [if_pos d2, if_pos d2, if_neg n10, e2', Option.bind_some]
      by_cases d3 : (rn tx 3 ((rn tx 3 (i + 1) 0).2 + 1) 0).2 = (rn tx 3 (i + 1) 0).2 + 1
      · rw [if_pos d3, if_pos d3, if_pos rfl, d3]
        exact ⟨_, rfl, rfl, Or.inl ⟨rfl, rfl⟩⟩
      · rw [if_neg d3, if_neg d3, if_neg n10, r_J154 h (by omega)]
        by_cases d4 : chT tx (rn tx 3 ((rn tx 3 (i + 1) 0).2 + 1) 0).2 = 59
        · rw [if_pos d4, if_pos d4]
          exact ⟨_, rfl, rfl, Or.inr ⟨_, rfl, rfl, rfl, b1, b2, Or.inl ⟨c, (u2 0 (by decide)).trans f1, f2⟩⟩⟩
        · rw [if_neg d4, if_neg d4]
          exact ⟨_, rfl, rfl, Or.inl ⟨rfl, rfl⟩⟩
    · rw [if_neg d2, if_neg d2, if_pos rfl]
      exact ⟨_, rfl, rfl, Or.inl ⟨rfl, rfl⟩⟩
theorem r_none {tx : List Nat} {Tx : Nat → Int32} {typed : Int32} (h : TX tx Tx typed) {i : Nat} (hi : i < 1000) (c : chT tx i = 112 ∨ chT tx i = 115) (told : Nat → Int32) : ∃ R, f_X8_reads_J104 Tx typed 0 1 told (nI i) (nI (chT tx i)) = some R ∧ rdK (rd tx i) R.1 R.2.2.1 R.2.2.2 (R.2.1 0) (R.2.1 1) := by
  have s1 := r_sign h (i := i + 1) (c := 59) (by omega) (by decide) (by decide)
  have s1' : f_X8_sign (59 : Int32) Tx typed (nI (i + 1)) = _ := s1
  rw [f_X8_reads_J104, lt_v, nI_1, if_neg n10, s1', Option.bind_some]
  unfold rd
  rw [if_neg (show ¬ (chT tx i = 98 ∨ chT tx i = 102 ∨ chT tx i = 103) by omega), if_pos c]
  by_cases d1 : chT tx (i + 1) = 59
  · rw [if_pos d1, if_pos d1, gd_t (Or.inr rfl)]
    exact ⟨_, rfl, rfl, Or.inr ⟨_, rfl, rfl, rfl, Nat.zero_le _, Nat.zero_le _, Or.inr (Or.inr c)⟩⟩
  · rw [if_neg d1, if_neg d1, gd_t (Or.inl rfl)]
    exact ⟨_, rfl, rfl, Or.inl ⟨rfl, rfl⟩⟩
theorem r_one {tx : List Nat} {Tx : Nat → Int32} {typed : Int32} (h : TX tx Tx typed) {i : Nat} (hi : i < 1000) (c : chT tx i = 119) (told : Nat → Int32) : ∃ R, f_X8_reads_J104 Tx typed 0 0 told (nI i) (nI (chT tx i)) = some R ∧ rdK (rd tx i) R.1 R.2.2.1 R.2.2.2 (R.2.1 0) (R.2.1 1) := by
  have g1 := rn_ge tx 3 (i + 1) 0
  have b1 := rn3 tx (i + 1)
  obtain ⟨t1, e1, f1, u1⟩ := r_num h (w := 0) (i := i + 1) (by decide) (by omega) told
  have e1' : f_X8_number (0 : Int32) Tx told typed (nI (i + 1)) = _ := e1
  rw [f_X8_reads_J104, lt_v, nI_1, if_pos rfl, e1', Option.bind_some]
  unfold rd
  rw [if_neg (show ¬ (chT tx i = 98 ∨ chT tx i = 102 ∨ chT tx i = 103) by omega), if_neg (show ¬ (chT tx i = 112 ∨ chT tx i = 115) by omega), if_pos c]
  by_cases d1 : (rn tx 3 (i + 1) 0).2 = i + 1
  · rw [if_pos d1, if_pos d1, if_pos rfl, d1]
    exact ⟨_, rfl, rfl, Or.inl ⟨rfl, rfl⟩⟩
  · rw [if_neg d1, if_neg d1, if_neg n10, if_pos rfl, r_J154 h (by omega)]
    by_cases d2 : chT tx (rn tx 3 (i + 1) 0).2 = 59
    · rw [if_pos d2, if_pos d2]
      exact ⟨_, rfl, rfl, Or.inr ⟨_, rfl, rfl, rfl, b1, Nat.zero_le _, Or.inr (Or.inl ⟨c, f1⟩)⟩⟩
    · rw [if_neg d2, if_neg d2]
      exact ⟨_, rfl, rfl, Or.inl ⟨rfl, rfl⟩⟩
theorem r_rd {tx : List Nat} {Tx : Nat → Int32} {typed : Int32} (h : TX tx Tx typed) {i : Nat} (hi : i < tx.length) (told : Nat → Int32) (z : Int32) : ∃ R, f_X8_reads Tx told typed (nI i) z = some R ∧ rdK (rd tx i) R.1 R.2.2.1 R.2.2.2 (R.2.1 0) (R.2.1 1) := by
  have hlen := h.2.1
  obtain ⟨e1, e2, e3⟩ := chT_in h hi
  have ne : ∀ n : Nat, n < 2 ^ 31 → chT tx i ≠ n → ¬ nI (chT tx i) = nI n := fun n hn q z => q ((nI_eq (by omega) hn).mp z)
  have e := r_isAt h (i := i) (a := 33) (b := 126) (by omega) (by decide) (by decide) (by decide)
  have e' : f_X8_isAt (33 : Int32) (126 : Int32) Tx typed (nI i) = _ := e
  have no : (¬ (chT tx i = 98 ∨ chT tx i = 102 ∨ chT tx i = 103)) → ¬ (chT tx i = 112 ∨ chT tx i = 115) → ¬ chT tx i = 119 → rd tx i = (none, i) := fun q1 q2 q3 => by
    unfold rd
    rw [if_neg q1, if_neg q2, if_neg q3]
  rw [f_X8_reads, e', Option.bind_some]
  by_cases c0 : 33 ≤ chT tx i ∧ chT tx i ≤ 126
  · rw [if_pos c0, if_neg n10, gd_t (nI_in (by omega) (by decide)), v_cl (by omega), e1, f_X8_reads_J25, f_X8_reads_J55, f_X8_reads_J60, f_X8_reads_J60, f_X8_reads_J79, f_X8_reads_J79, f_X8_reads_J84, f_X8_reads_J84, f_X8_reads_J84, f_X8_reads_J84]
    by_cases d115 : chT tx i = 115
    · rw [if_neg (show ¬ nI (chT tx i) = (102 : Int32) from ne 102 (by decide) (by omega)), if_neg (show ¬ nI (chT tx i) = (103 : Int32) from ne 103 (by decide) (by omega)), if_neg (show ¬ nI (chT tx i) = (98 : Int32) from ne 98 (by decide) (by omega)), if_pos (show nI (chT tx i) = (115 : Int32) from congrArg nI d115), if_pos rfl, if_neg n10]
      exact r_none h (by omega) (Or.inr d115) told
    by_cases d112 : chT tx i = 112
    · rw [if_neg (show ¬ nI (chT tx i) = (102 : Int32) from ne 102 (by decide) (by omega)), if_neg (show ¬ nI (chT tx i) = (103 : Int32) from ne 103 (by decide) (by omega)), if_neg (show ¬ nI (chT tx i) = (98 : Int32) from ne 98 (by decide) (by omega)), if_neg (show ¬ nI (chT tx i) = (115 : Int32) from ne 115 (by decide) d115), if_pos (show nI (chT tx i) = (112 : Int32) from congrArg nI d112), if_pos rfl, if_neg n10]
      exact r_none h (by omega) (Or.inl d112) told
    have x115 : ¬ nI (chT tx i) = (115 : Int32) := ne 115 (by decide) d115
    have x112 : ¬ nI (chT tx i) = (112 : Int32) := ne 112 (by decide) d112
    by_cases d102 : chT tx i = 102
    · rw [if_pos (show nI (chT tx i) = (102 : Int32) from congrArg nI d102), if_neg x115, if_neg x112, if_neg n10]
      exact r_two h (by omega) (Or.inr (Or.inl d102)) told
    rw [if_neg (show ¬ nI (chT tx i) = (102 : Int32) from ne 102 (by decide) d102)]
    by_cases d103 : chT tx i = 103
    · rw [if_pos (show nI (chT tx i) = (103 : Int32) from congrArg nI d103), if_neg x115, if_neg x112, if_neg n10]
      exact r_two h (by omega) (Or.inr (Or.inr d103)) told
    rw [if_neg (show ¬ nI (chT tx i) = (103 : Int32) from ne 103 (by decide) d103)]
    by_cases d98 : chT tx i = 98
    · rw [if_pos (show nI (chT tx i) = (98 : Int32) from congrArg nI d98), if_neg x115, if_neg x112, if_neg n10]
      exact r_two h (by omega) (Or.inl d98) told
    rw [if_neg (show ¬ nI (chT tx i) = (98 : Int32) from ne 98 (by decide) d98), if_neg x115, if_neg x112, if_pos rfl, if_pos rfl]
    by_cases d119 : chT tx i = 119
    · rw [if_pos (show nI (chT tx i) = (119 : Int32) from congrArg nI d119)]
      exact r_one h (by omega) d119 told
    · rw [if_neg (show ¬ nI (chT tx i) = (119 : Int32) from ne 119 (by decide) d119), no (by omega) (by omega) d119]
      exact ⟨_, rfl, rfl, Or.inl ⟨rfl, rfl⟩⟩
  · rw [if_neg c0, if_pos rfl, no (by omega) (by omega) (by omega), f_X8_reads_J25, if_neg (by decide), if_neg (by decide), if_neg (by decide), f_X8_reads_J60, if_neg (by decide), if_neg (by decide), f_X8_reads_J84, if_pos rfl, if_pos rfl, if_neg (by decide)]
    exact ⟨_, rfl, rfl, Or.inl ⟨rfl, rfl⟩⟩
end
section
/-! doing the orders of the text, on both sides -/
noncomputable def exA (o : Nat × Nat × Nat) (σ : Sp) : Int32 := if o.1 = 98 then a_dial (nI o.2.1) (nI o.2.2) (v_b0 σ) (v_b1 σ) else if o.1 = 102 then a_fill (nI o.2.1) (nI o.2.2) (v_lo σ) else if o.1 = 103 then a_grind (nI o.2.1) (nI o.2.2) (v_lo σ) (v_ch σ) (v_ba σ) (v_st σ 2) else if o.1 = 115 then a_shot (v_st σ) (v_ba σ) else if o.1 = 119 then a_rest (nI o.2.1) (v_b0 σ).2.1 (v_b1 σ).2.1 (v_se σ) else nI (tot (v_ch σ))
def exS (o : Nat × Nat × Nat) (σ : Sp) : Sp := if o.1 = 98 then o_dial (nx (nI o.2.1)) (nx (nI o.2.2)) σ else if o.1 = 102 then o_fill (nx (nI o.2.1)) (nx (nI o.2.2)) σ else if o.1 = 103 then o_grind (nx (nI o.2.1)) (nx (nI o.2.2)) σ else if o.1 = 115 then o_shot σ else if o.1 = 119 then o_rest (nx (nI o.2.1)) σ else o_purge σ
theorem ex_K {o : Nat × Nat × Nat} {σ : Sp} {B : Nat} (hk : KK σ B) (h : 0 ≤ exA o σ) : KK (exS o σ) (B + 3000) := by
  unfold exA at h
  unfold exS
  by_cases c1 : o.1 = 98
  · rw [if_pos c1] at h ⊢
    exact KK_up (K_dial hk h) (by omega)
  rw [if_neg c1] at h ⊢
  by_cases c2 : o.1 = 102
  · rw [if_pos c2] at h ⊢
    exact KK_up (K_fill hk h) (by omega)
  rw [if_neg c2] at h ⊢
  by_cases c3 : o.1 = 103
  · rw [if_pos c3] at h ⊢
    exact K_grind hk h
  rw [if_neg c3] at h ⊢
  by_cases c4 : o.1 = 115
  · rw [if_pos c4]
    exact K_shot hk
  rw [if_neg c4] at h ⊢
  by_cases c5 : o.1 = 119
  · rw [if_pos c5] at h ⊢
    exact K_rest hk h
  rw [if_neg c5]
  exact KK_up (K_purge hk) (by omega)
theorem p_ex {o : Nat × Nat × Nat} {σ : Sp} {g : Gr} {B : Nat} {c a b : Int32} (hg : GR σ g) (hk : KK σ B) (hB : B < 2 ^ 28) (ho : ordK o c a b) : ∃ R, f_X4_doOrderOn c a b g = some R ∧ R.1 = exA o σ ∧ (0 ≤ R.1 → GR (exS o σ) R.2) := by
  obtain ⟨rfl, n1, n2, hc⟩ := ho
  have ho1 : o.1 < 2 ^ 31 := by omega
  have ne : ∀ n : Nat, n < 2 ^ 31 → o.1 ≠ n → ¬ nI o.1 = nI n := fun n hn q z => q ((nI_eq ho1 hn).mp z)
  unfold exA exS
  rw [f_X4_doOrderOn]
  by_cases c1 : o.1 = 98
  · rw [if_pos c1, if_pos c1, if_pos (show nI o.1 = (98 : Int32) from congrArg nI c1)]
    have h2 : a = nI o.2.1 ∧ b = nI o.2.2 := by
      rcases hc with ⟨-, h1, h2⟩ | ⟨q, -⟩ | q | q
      · exact ⟨h1, h2⟩
      · omega
      · omega
      · omega
    rw [h2.1, h2.2]
    obtain ⟨R, e1, e2, e3⟩ := G_turnDial hg hk (nI o.2.1) (nI o.2.2)
    rw [e1, Option.bind_some]
    exact ⟨_, rfl, e2, e3⟩
  rw [if_neg c1, if_neg c1, if_neg (show ¬ nI o.1 = (98 : Int32) from ne 98 (by decide) c1)]
  by_cases c2 : o.1 = 102
  · rw [if_pos c2, if_pos c2, if_pos (show nI o.1 = (102 : Int32) from congrArg nI c2)]
    have h2 : a = nI o.2.1 ∧ b = nI o.2.2 := by
      rcases hc with ⟨-, h1, h2⟩ | ⟨q, -⟩ | q | q
      · exact ⟨h1, h2⟩
      · omega
      · omega
      · omega
    rw [h2.1, h2.2]
    obtain ⟨R, e1, e2, e3⟩ := G_fillIn hg hk (nI o.2.1) (nI o.2.2)
    rw [e1, Option.bind_some]
    exact ⟨_, rfl, e2, e3⟩
  rw [if_neg c2, if_neg c2, if_neg (show ¬ nI o.1 = (102 : Int32) from ne 102 (by decide) c2)]
  by_cases c3 : o.1 = 103
  · rw [if_pos c3, if_pos c3, if_pos (show nI o.1 = (103 : Int32) from congrArg nI c3)]
    have h2 : a = nI o.2.1 ∧ b = nI o.2.2 := by
      rcases hc with ⟨-, h1, h2⟩ | ⟨q, -⟩ | q | q
      · exact ⟨h1, h2⟩
      · omega
      · omega
      · omega
    rw [h2.1, h2.2]
    obtain ⟨R, e1, e2, e3⟩ := G_grindBy hg hk hB (nI o.2.1) (nI o.2.2)
    rw [e1, Option.bind_some]
    exact ⟨_, rfl, e2, e3⟩
  rw [if_neg c3, if_neg c3, if_neg (show ¬ nI o.1 = (103 : Int32) from ne 103 (by decide) c3)]
  by_cases c4 : o.1 = 115
  · rw [if_pos c4, if_pos c4, if_pos (show nI o.1 = (115 : Int32) from congrArg nI c4)]
    obtain ⟨R, e1, e2, e3⟩ := G_makeShot hg hk hB
    rw [e1, Option.bind_some]
    exact ⟨_, rfl, e2, fun q => (e3 q).2⟩
  rw [if_neg c4, if_neg c4, if_neg (show ¬ nI o.1 = (115 : Int32) from ne 115 (by decide) c4)]
  by_cases c5 : o.1 = 119
  · rw [if_pos c5, if_pos c5, if_pos (show nI o.1 = (119 : Int32) from congrArg nI c5)]
    have h2 : a = nI o.2.1 := by
      rcases hc with ⟨q, -⟩ | ⟨-, h1⟩ | q | q
      · omega
      · exact h1
      · omega
      · omega
    rw [h2]
    obtain ⟨R, e1, e2, e3⟩ := G_letPass hg hk hB (nI o.2.1)
    rw [e1, Option.bind_some]
    exact ⟨_, rfl, e2, e3⟩
  rw [if_neg c5, if_neg c5, if_neg (show ¬ nI o.1 = (119 : Int32) from ne 119 (by decide) c5)]
  obtain ⟨R, e1, e2, e3⟩ := G_emptyChute hg
  rw [e1, Option.bind_some]
  exact ⟨_, rfl, e2, fun _ => e3⟩
theorem r_ex {o : Nat × Nat × Nat} {σ : Sp} {hs : List Sp} {B : Nat} {S P told : Nat → Int32} {pasts runs c : Int32} (h : PR hs P pasts) (hm : MR σ S) (hk : KK σ B) (hK : KH hs B) (hB : B < 2 ^ 28) (hr : runs = 0 ∨ runs = 1) (ho : ordK o c (told 0) (told 1)) : ∃ R, f_X8_calls S P told pasts runs c = some R ∧ RC σ (exS o σ) hs (exA o σ) S P pasts runs R := by
  obtain ⟨rfl, n1, n2, hc⟩ := ho
  have ho1 : o.1 < 2 ^ 31 := by omega
  have ne : ∀ n : Nat, n < 2 ^ 31 → o.1 ≠ n → ¬ nI o.1 = nI n := fun n hn q z => q ((nI_eq ho1 hn).mp z)
  have t0 : told (0 : Int32).toNatClampNeg = told 0 := rfl
  have t1 : told (1 : Int32).toNatClampNeg = told 1 := rfl
  unfold exA exS
  rw [f_X8_calls, t0, t1]
  by_cases c1 : o.1 = 98
  · rw [if_pos c1, if_pos c1, if_pos (show nI o.1 = (98 : Int32) from congrArg nI c1)]
    have h2 : told 0 = nI o.2.1 ∧ told 1 = nI o.2.2 := by
      rcases hc with ⟨-, h1, h2⟩ | ⟨q, -⟩ | q | q
      · exact ⟨h1, h2⟩
      · omega
      · omega
      · omega
    rw [h2.1, h2.2]
    obtain ⟨R, e1, e2⟩ := r_dial h hm hk hK hr (nI o.2.1) (nI o.2.2)
    rw [e1, Option.bind_some]
    exact ⟨_, rfl, e2⟩
  rw [if_neg c1, if_neg c1, if_neg (show ¬ nI o.1 = (98 : Int32) from ne 98 (by decide) c1)]
  by_cases c2 : o.1 = 102
  · rw [if_pos c2, if_pos c2, if_pos (show nI o.1 = (102 : Int32) from congrArg nI c2)]
    have h2 : told 0 = nI o.2.1 ∧ told 1 = nI o.2.2 := by
      rcases hc with ⟨-, h1, h2⟩ | ⟨q, -⟩ | q | q
      · exact ⟨h1, h2⟩
      · omega
      · omega
      · omega
    rw [h2.1, h2.2]
    obtain ⟨R, e1, e2⟩ := r_fill h hm hk hK hr (nI o.2.1) (nI o.2.2)
    rw [e1, Option.bind_some]
    exact ⟨_, rfl, e2⟩
  rw [if_neg c2, if_neg c2, if_neg (show ¬ nI o.1 = (102 : Int32) from ne 102 (by decide) c2)]
  by_cases c3 : o.1 = 103
  · rw [if_pos c3, if_pos c3, if_pos (show nI o.1 = (103 : Int32) from congrArg nI c3)]
    have h2 : told 0 = nI o.2.1 ∧ told 1 = nI o.2.2 := by
      rcases hc with ⟨-, h1, h2⟩ | ⟨q, -⟩ | q | q
      · exact ⟨h1, h2⟩
      · omega
      · omega
      · omega
    rw [h2.1, h2.2]
    obtain ⟨R, e1, e2⟩ := r_grind h hm hk hK hB hr (nI o.2.1) (nI o.2.2)
    rw [e1, Option.bind_some]
    exact ⟨_, rfl, e2⟩
  rw [if_neg c3, if_neg c3, if_neg (show ¬ nI o.1 = (103 : Int32) from ne 103 (by decide) c3)]
  by_cases c4 : o.1 = 115
  · rw [if_pos c4, if_pos c4, if_pos (show nI o.1 = (115 : Int32) from congrArg nI c4)]
    obtain ⟨R, e1, e2⟩ := r_shot h hm hk hK hB hr
    rw [e1, Option.bind_some]
    exact ⟨_, rfl, e2⟩
  rw [if_neg c4, if_neg c4, if_neg (show ¬ nI o.1 = (115 : Int32) from ne 115 (by decide) c4)]
  by_cases c5 : o.1 = 119
  · rw [if_pos c5, if_pos c5, if_pos (show nI o.1 = (119 : Int32) from congrArg nI c5)]
    have h2 : told 0 = nI o.2.1 := by
      rcases hc with ⟨q, -⟩ | ⟨-, h1⟩ | q | q
      · omega
      · exact h1
      · omega
      · omega
    rw [h2]
    obtain ⟨R, e1, e2⟩ := r_rest h hm hk hK hB hr (nI o.2.1)
    rw [e1, Option.bind_some]
    exact ⟨_, rfl, e2⟩
  rw [if_neg c5, if_neg c5, if_neg (show ¬ nI o.1 = (119 : Int32) from ne 119 (by decide) c5)]
  obtain ⟨R, e1, e2⟩ := r_purge h hm hk hK hr
  rw [e1, Option.bind_some]
  exact ⟨_, rfl, e2⟩
/-- the orders from i on, k done so far: the fault (place, reason, cause), how many are done, the state then -/
noncomputable def pl (tx : List Nat) : Nat → Nat → Nat → Sp → Option (Nat × Int32 × Int32) × Nat × Sp
  | 0, _, k, σ => (none, k, σ)
  | n + 1, i, k, σ => if tx.length ≤ i then (none, k, σ) else match (rd tx i).1 with
    | none => (some (i, 1, nI ((rd tx i).2 - i)), k, σ)
    | some o => if 0 ≤ exA o σ then pl tx n (rd tx i).2 (k + 1) (exS o σ) else (some (i, 2, exA o σ), k, σ)
theorem pl_K (tx : List Nat) {B : Nat} : ∀ (n i k : Nat) (σ : Sp), i ≤ tx.length → 2 * k ≤ i → KK σ (B + 3000 * k) → (pl tx n i k σ).1 = none → KK (pl tx n i k σ).2.2 (B + 1500 * tx.length) ∧ (pl tx n i k σ).2.1 ≤ tx.length
  | 0, i, k, σ, hi, h2, hk, _ => ⟨KK_up hk (by omega), by show k ≤ _; omega⟩
  | n + 1, i, k, σ, hi, h2, hk, hn => by
    rw [pl] at hn ⊢
    by_cases c : tx.length ≤ i
    · rw [if_pos c]
      exact ⟨KK_up hk (by omega), by show k ≤ _; omega⟩
    · rw [if_neg c] at hn ⊢
      cases e : (rd tx i).1 with
      | none => rw [e] at hn; cases hn
      | some o =>
        rw [e] at hn
        simp only at hn ⊢
        by_cases d : 0 ≤ exA o σ
        · rw [if_pos d] at hn ⊢
          have hmv := rd_mv e
          exact pl_K tx n (rd tx i).2 (k + 1) (exS o σ) hmv.2 (by omega) (KK_up (ex_K hk d) (by omega)) hn
        · rw [if_neg d] at hn
          cases hn
theorem p_pl {tx : List Nat} {sg : Nat → Int32} {oL : Int32} {B : Nat} (h : TX tx sg oL) (hB : B + 200000 < 2 ^ 28) : ∀ (n i k fuel : Nat) (σ : Sp) (g : Gr) (oC oF oS oP oU : Int32), tx.length ≤ i + n → i ≤ tx.length → 2 * k ≤ i → n < fuel → GR σ g → KK σ (B + 3000 * k) →
    ∃ R, f_X4_doAllOn_L15 sg oL fuel (nI i) oC oF oS (nI k) oP 0 oU g = some R ∧ (((pl tx n i k σ).1 = none ∧ R.2.2.2.2.2.2.1 = 0 ∧ R.2.2.2.2.1 = nI (pl tx n i k σ).2.1 ∧ GR (pl tx n i k σ).2.2 R.2.2.2.2.2.2.2.2) ∨ ∃ f, (pl tx n i k σ).1 = some f ∧ (f.2.1 = 1 ∨ f.2.1 = 2) ∧ R.2.2.2.2.2.2.1 = f.2.1 ∧ R.2.2.2.2.2.1 = nI f.1 ∧ R.2.2.2.2.2.2.2.1 = f.2.2) := by
  have hlen := h.2.1
  intro n
  induction n with
  | zero =>
    intro i k fuel σ g oC oF oS oP oU hn hi hk2 hf hg hk
    obtain ⟨fu, rfl⟩ : ∃ fu, fuel = fu + 1 := ⟨fuel - 1, by omega⟩
    rw [f_X4_doAllOn_L15, if_neg (show ¬ (60 : Int32) ≤ nI k from nI_ge (b := 60) (by omega) (by decide)), h.1, if_pos (nI_le (by omega) (by omega))]
    exact ⟨_, rfl, Or.inl ⟨rfl, rfl, rfl, hg⟩⟩
  | succ n ih =>
    intro i k fuel σ g oC oF oS oP oU hn hi hk2 hf hg hk
    obtain ⟨fu, rfl⟩ : ∃ fu, fuel = fu + 1 := ⟨fuel - 1, by omega⟩
    rw [f_X4_doAllOn_L15, if_neg (show ¬ (60 : Int32) ≤ nI k from nI_ge (b := 60) (by omega) (by decide)), h.1]
    rw [pl]
    by_cases c : tx.length ≤ i
    · rw [if_pos (nI_le c (by omega)), if_pos c]
      exact ⟨_, rfl, Or.inl ⟨rfl, rfl, rfl, hg⟩⟩
    · rw [if_neg (nI_ge (by omega) (by omega)), if_neg c]
      obtain ⟨R, r1, r2, r3⟩ := p_rd h (i := i) (by omega) oC oF oS
      have hrl := rd_le tx i
      rw [h.1] at r1
      rw [r1, Option.bind_some]
      rcases r3 with ⟨e, f0⟩ | ⟨o, e, f1, ho⟩
      · rw [e, f0, if_pos rfl, f_X4_blame, Option.bind_some, r2, pk_sub hrl.1]
        exact ⟨_, rfl, Or.inr ⟨_, rfl, Or.inl rfl, rfl, rfl, rfl⟩⟩
      · have hmv := rd_mv e
        obtain ⟨R2, s1, s2, s3⟩ := p_ex hg hk (by omega) ho
        rw [e, f1, if_neg n10, s1, Option.bind_some]
        simp only
        by_cases d : 0 ≤ R2.1
        · have d' : 0 ≤ exA o σ := s2 ▸ d
          obtain ⟨R3, t1, t2⟩ := ih (rd tx i).2 (k + 1) fu (exS o σ) R2.2 R.2.2.1 R.2.2.2.1 R.2.2.2.2 oP oU (by omega) hmv.2 (by omega) (by omega) (s3 d) (KK_up (ex_K hk d') (by omega))
          rw [h.1] at t1
          rw [if_pos d, if_pos d', lt_v, r2, nI_1, t1]
          exact ⟨R3, rfl, t2⟩
        · have d' : ¬ 0 ≤ exA o σ := s2 ▸ d
          rw [if_neg d, if_neg d', f_X4_blame, Option.bind_some]
          exact ⟨_, rfl, Or.inr ⟨_, rfl, Or.inr rfl, rfl, rfl, s2⟩⟩
theorem r_pl {tx : List Nat} {Tx : Nat → Int32} {typed : Int32} {B : Nat} {hs : List Sp} {P : Nat → Int32} {pasts : Int32} (h : TX tx Tx typed) (hB : B + 200000 < 2 ^ 28) (hP : PR hs P pasts) (hK : KH hs B) : ∀ (n i k fuel : Nat) (σ : Sp) (S told : Nat → Int32) (frm reas caus ordr : Int32), tx.length ≤ i + n → i ≤ tx.length → 2 * k ≤ i → n + 1 < fuel → MR σ S → KK σ (B + 3000 * k) →
    ∃ R, f_X8_plays_L22 Tx typed fuel 1 S P told pasts 1 (nI i) frm reas caus (nI k) ordr = some R ∧ R.2.2.1 = P ∧ R.2.2.2.2.1 = pasts ∧ R.2.2.2.2.2.1 = 0 ∧ (((pl tx n i k σ).1 = none ∧ R.1 = 1 ∧ R.2.2.2.2.2.2.2.2.2.2.1 = nI (pl tx n i k σ).2.1 ∧ MR (pl tx n i k σ).2.2 R.2.1) ∨ ∃ f, (pl tx n i k σ).1 = some f ∧ R.1 = 0 ∧ R.2.2.2.2.2.2.2.2.1 = f.2.1 ∧ R.2.2.2.2.2.2.2.1 = nI f.1 ∧ R.2.2.2.2.2.2.2.2.2.1 = f.2.2) := by
  have hlen := h.2.1
  -- a fault ends the loop at its next turn
  have stop : ∀ (fuel i : Nat) (S told : Nat → Int32) (frm reas caus ords ordr : Int32), 0 < fuel → f_X8_plays_L22 Tx typed fuel 0 S P told pasts 1 (nI i) frm reas caus ords ordr = some (0, S, P, told, pasts, 0, nI i, frm, reas, caus, ords, ordr) := by
    intro fuel i S told frm reas caus ords ordr hf
    obtain ⟨fu, rfl⟩ : ∃ fu, fuel = fu + 1 := ⟨fuel - 1, by omega⟩
    rw [f_X8_plays_L22, if_pos rfl, f_X8_plays_J124, gd_t (Or.inl rfl)]
    split <;> rfl
  intro n
  induction n with
  | zero =>
    intro i k fuel σ S told frm reas caus ordr hn hi hk2 hf hm hk
    obtain ⟨fu, rfl⟩ : ∃ fu, fuel = fu + 1 := ⟨fuel - 1, by omega⟩
    rw [f_X8_plays_L22, h.1, if_pos (nI_le (by omega) (by omega)), f_X8_plays_J124, gd_t (Or.inr rfl)]
    exact ⟨_, rfl, rfl, rfl, rfl, Or.inl ⟨rfl, rfl, rfl, hm⟩⟩
  | succ n ih =>
    intro i k fuel σ S told frm reas caus ordr hn hi hk2 hf hm hk
    obtain ⟨fu, rfl⟩ : ∃ fu, fuel = fu + 1 := ⟨fuel - 1, by omega⟩
    rw [f_X8_plays_L22]
    rw [pl]
    by_cases c : tx.length ≤ i
    · rw [if_pos (show typed ≤ nI i by rw [h.1]; exact nI_le c (by omega)), if_pos c, f_X8_plays_J124, gd_t (Or.inr rfl)]
      exact ⟨_, rfl, rfl, rfl, rfl, Or.inl ⟨rfl, rfl, rfl, hm⟩⟩
    · obtain ⟨R, r1, r2, r3⟩ := r_rd h (i := i) (by omega) told ordr
      have hrl := rd_le tx i
      rw [if_neg (show ¬ typed ≤ nI i by rw [h.1]; exact nI_ge (by omega) (by omega)), if_neg c, if_neg n10, r1, Option.bind_some]
      rcases r3 with ⟨e, f0⟩ | ⟨o, e, f1, ho⟩
      · rw [e, f0, if_pos rfl, f_X8_plays_J62, if_pos rfl, f_X8_plays_J75, f_X8_plays_J76, if_pos rfl, f_X8_plays_J87, if_pos rfl, f_X8_plays_J108, lt_v, r2, pk_sub hrl.1, stop fu _ _ _ _ _ _ _ _ (by omega)]
        exact ⟨_, rfl, rfl, rfl, rfl, Or.inr ⟨_, rfl, rfl, rfl, rfl, rfl⟩⟩
      · have hmv := rd_mv e
        have hK' : KH hs (B + 3000 * k) := fun τ hτ => KK_up (hK τ hτ) (by omega)
        obtain ⟨R2, s1, s2, s3, s4⟩ := r_ex hP hm hk hK' (by omega) (Or.inr rfl) ho
        rw [e, f1, if_neg n10, s1, Option.bind_some, f_X8_plays_J62, if_neg n10]
        simp only
        by_cases d : 0 ≤ exA o σ
        · obtain ⟨a1, a2, a3⟩ := s4 d
          have a2' := a2 rfl
          have aP : R2.2.2.1 = P := congrArg Prod.fst a2'
          have ap : R2.2.2.2 = pasts := congrArg Prod.snd a2'
          obtain ⟨R3, t1, t2⟩ := ih (rd tx i).2 (k + 1) fu (exS o σ) R2.2.1 R.2.1 (nI i) 2 (exA o σ) R.2.2.2 (by omega) hmv.2 (by omega) (by omega) a1 (KK_up (ex_K hk d) (by omega))
          rw [if_pos d, s2, if_neg (Int32.not_lt.mpr d), f_X8_plays_J76, if_neg n10, f_X8_plays_J87, if_neg n10, f_X8_plays_J108, lt_v, aP, ap, r2, nI_1, t1]
          exact ⟨R3, rfl, t2⟩
        · have d2 := Int32.not_le.mp d
          have a4 := s3 d2
          have aP : R2.2.2.1 = P := congrArg (fun q => q.2.1) a4
          have ap : R2.2.2.2 = pasts := congrArg (fun q => q.2.2) a4
          rw [if_neg d, s2, if_pos d2, f_X8_plays_J75, f_X8_plays_J76, if_neg n10, f_X8_plays_J87, if_neg n10, f_X8_plays_J108, lt_v, aP, ap, r2, stop fu _ _ _ _ _ _ _ _ (by omega)]
          exact ⟨_, rfl, rfl, rfl, rfl, Or.inr ⟨_, rfl, rfl, rfl, rfl, rfl⟩⟩
end
section
/-! the two sides together, a call at a time -/
theorem p_keep {a : Int32} {nw sp yl ys yt yo n : Nat} (hn : n ≤ 4) : f_X7_keepIfDone a nw sp yl ys yt yo (nI n) = some (if 0 ≤ a then (a, sp, yo, nw, yl, ys, yt, nI (min 4 (n + 1))) else (a, nw, sp, yl, ys, yt, yo, nI n)) := by
  rw [f_X7_keepIfDone]
  by_cases c : 0 ≤ a
  · have e : (if nI n + (1 : Int32) < (4 : Int32) then nI n + (1 : Int32) else (4 : Int32)) = nI (min 4 (n + 1)) := by
      rw [nI_1]
      by_cases q : n + 1 < 4
      · rw [if_pos (show nI (n + 1) < (4 : Int32) from nI_lt (b := 4) q (by decide))]
        exact nI_inj (by omega)
      · rw [if_neg (show ¬ nI (n + 1) < (4 : Int32) from nI_nlt (b := 4) (by omega) (by omega)), show min 4 (n + 1) = 4 by omega]
        rfl
    rw [if_pos c, if_pos c, f_X2_add, e, lt_v, Option.bind_some]
  · rw [if_neg c, if_neg c]
/-- a change of the class: the state that is spare is the new one, or nothing is -/
def PCH (σ' : Sp) (a : Int32) (nw sp yl ys yt yo n : Nat) (R : Int32 × Nat × Nat × Nat × Nat × Nat × Nat × Int32 × Gr) : Prop := R.1 = a ∧ (a < 0 → R.2.1 = nw ∧ R.2.2.1 = sp ∧ R.2.2.2.1 = yl ∧ R.2.2.2.2.1 = ys ∧ R.2.2.2.2.2.1 = yt ∧ R.2.2.2.2.2.2.1 = yo ∧ R.2.2.2.2.2.2.2.1 = nI n) ∧ (0 ≤ a → R.2.1 = sp ∧ R.2.2.1 = yo ∧ R.2.2.2.1 = nw ∧ R.2.2.2.2.1 = yl ∧ R.2.2.2.2.2.1 = ys ∧ R.2.2.2.2.2.2.1 = yt ∧ R.2.2.2.2.2.2.2.1 = nI (min 4 (n + 1)) ∧ GR σ' R.2.2.2.2.2.2.2.2)
theorem p_chg {σ σ' : Sp} {gN gS : Gr} {B n nw sp yl ys yt yo : Nat} {a : Int32} (F : Gr → Option (Int32 × Gr)) (hg : GR σ gN) (hk : KK σ B) (hn : n ≤ 4) (hF : ∀ g, GR σ g → ∃ R, F g = some R ∧ R.1 = a ∧ (0 ≤ R.1 → GR σ' R.2)) : ∃ R, ((f_X7_spareLikeNow nw sp gN gS).bind fun q1 => (F q1).bind fun q2 => (f_X7_keepIfDone q2.1 nw sp yl ys yt yo (nI n)).bind fun q3 => some (q3.1, q3.2.1, q3.2.2.1, q3.2.2.2.1, q3.2.2.2.2.1, q3.2.2.2.2.2.1, q3.2.2.2.2.2.2.1, q3.2.2.2.2.2.2.2, q2.2)) = some R ∧ PCH σ' a nw sp yl ys yt yo n R := by
  obtain ⟨g1, e1, h1⟩ := G_copyFrom hg hk gS
  obtain ⟨R2, e2, h2, h3⟩ := hF g1 h1
  rw [f_X7_spareLikeNow, e1, Option.bind_some, Option.bind_some, e2, Option.bind_some, p_keep hn, Option.bind_some]
  by_cases c : 0 ≤ R2.1
  · rw [if_pos c]
    refine ⟨_, rfl, h2, fun q => absurd (h2 ▸ c) (Int32.not_le.mpr q), fun _ => ⟨rfl, rfl, rfl, rfl, rfl, rfl, rfl, h3 c⟩⟩
  · rw [if_neg c]
    exact ⟨_, rfl, h2, fun _ => ⟨rfl, rfl, rfl, rfl, rfl, rfl, rfl⟩, fun q => absurd (h2 ▸ q) c⟩
def HG (hs : List Sp) (gl gs gt go : Gr) : Prop := (∀ τ, hs[0]? = some τ → GR τ gl) ∧ (∀ τ, hs[1]? = some τ → GR τ gs) ∧ (∀ τ, hs[2]? = some τ → GR τ gt) ∧ (∀ τ, hs[3]? = some τ → GR τ go)
def SY (B : Nat) (gN gl gs gt go : Gr) (yn : Int32) (sg : Nat → Int32) (oL : Int32) (S P Tx : Nat → Int32) (pasts runs typed : Int32) : Prop :=
  ∃ (σ : Sp) (hs : List Sp) (tx : List Nat), GR σ gN ∧ KK σ B ∧ KH hs B ∧ yn = nI hs.length ∧ HG hs gl gs gt go ∧ TX tx sg oL ∧ TX tx Tx typed ∧ MR σ S ∧ PR hs P pasts ∧ runs = 0
theorem HG.push {σ : Sp} {hs : List Sp} {gN gl gs gt go : Gr} (h : HG hs gl gs gt go) (hg : GR σ gN) : HG ((σ :: hs).take 4) gN gl gs gt := by
  refine ⟨fun τ e => ?_, fun τ e => ?_, fun τ e => ?_, fun τ e => ?_⟩
  · rw [List.getElem?_take, if_pos (by decide)] at e
    cases e
    exact hg
  · rw [List.getElem?_take, if_pos (by decide)] at e
    exact h.1 τ e
  · rw [List.getElem?_take, if_pos (by decide)] at e
    exact h.2.1 τ e
  · rw [List.getElem?_take, if_pos (by decide)] at e
    exact h.2.2.1 τ e
theorem KH.push {σ : Sp} {hs : List Sp} {B C : Nat} (h : KH hs B) (hk : KK σ B) (hBC : B ≤ C) : KH ((σ :: hs).take 4) C := fun τ hτ => by
  rcases List.mem_cons.mp (List.mem_of_mem_take hτ) with rfl | q
  · exact KK_up hk hBC
  · exact KK_up (h τ q) hBC
/-- what the law's loop wants of a change: nothing new, or the states have moved on by one -/
def CHG (B nw sp yl ys yt yo : Nat) (gN gl gs gt go : Gr) (yn : Int32) (sg : Nat → Int32) (oL : Int32) (Tx : Nat → Int32) (runs typed : Int32) (nw' sp' yl' ys' yt' yo' : Nat) (yn' : Int32) (gS' : Gr) (S' P' : Nat → Int32) (pasts' : Int32) : Prop :=
  (nw' = nw ∧ sp' = sp ∧ yl' = yl ∧ ys' = ys ∧ yt' = yt ∧ yo' = yo ∧ SY (B + 90000) gN gl gs gt go yn' sg oL S' P' Tx pasts' runs typed) ∨ (nw' = sp ∧ sp' = yo ∧ yl' = nw ∧ ys' = yl ∧ yt' = ys ∧ yo' = yt ∧ SY (B + 90000) gS' gN gl gs gt yn' sg oL S' P' Tx pasts' runs typed)
theorem chg_of {σ σ' : Sp} {hs : List Sp} {tx : List Nat} {B nw sp yl ys yt yo : Nat} {gN gl gs gt go : Gr} {sg : Nat → Int32} {oL : Int32} {S P Tx : Nat → Int32} {pasts typed a : Int32} {R : Int32 × Nat × Nat × Nat × Nat × Nat × Nat × Int32 × Gr} {R' : Int32 × (Nat → Int32) × (Nat → Int32) × Int32} (hg : GR σ gN) (hk : KK σ B) (hK : KH hs B) (hG : HG hs gl gs gt go) (h1 : TX tx sg oL) (h2 : TX tx Tx typed) (hm : MR σ S) (hP : PR hs P pasts) (hK' : 0 ≤ a → KK σ' (B + 90000)) (p : PCH σ' a nw sp yl ys yt yo hs.length R) (r : RC σ σ' hs a S P pasts 0 R') : R.1 = R'.1 ∧ CHG B nw sp yl ys yt yo gN gl gs gt go (nI hs.length) sg oL Tx 0 typed R.2.1 R.2.2.1 R.2.2.2.1 R.2.2.2.2.1 R.2.2.2.2.2.1 R.2.2.2.2.2.2.1 R.2.2.2.2.2.2.2.1 R.2.2.2.2.2.2.2.2 R'.2.1 R'.2.2.1 R'.2.2.2 := by
  obtain ⟨p1, p2, p3⟩ := p
  obtain ⟨r1, r2, r3⟩ := r
  refine ⟨p1.trans r1.symm, ?_⟩
  by_cases c : 0 ≤ a
  · obtain ⟨q1, q2, q3, q4, q5, q6, q7, q8⟩ := p3 c
    obtain ⟨s1, s2, s3⟩ := r3 c
    have hl : ((σ :: hs).take 4).length = min 4 (hs.length + 1) := by rw [List.length_take]; rfl
    exact Or.inr ⟨q1, q2, q3, q4, q5, q6, σ', (σ :: hs).take 4, tx, q8, hK' c, hK.push hk (by omega), by rw [q7, hl], hG.push hg, h1, h2, s1, s3 rfl, rfl⟩
  · have c' := Int32.not_le.mp c
    obtain ⟨q1, q2, q3, q4, q5, q6, q7⟩ := p2 c'
    have e := r2 c'
    have eS : R'.2.1 = S := congrArg (fun q => q.1) e
    have eP : R'.2.2.1 = P := congrArg (fun q => q.2.1) e
    have ep : R'.2.2.2 = pasts := congrArg (fun q => q.2.2) e
    refine Or.inl ⟨q1, q2, q3, q4, q5, q6, σ, hs, tx, hg, KK_up hk (by omega), fun τ hτ => KK_up (hK τ hτ) (by omega), q7, hG, h1, h2, ?_, ?_, rfl⟩
    · rw [eS]; exact hm
    · rw [eP, ep]; exact hP
section ST
variable {B nw sp yl ys yt yo : Nat} {gN gS gl gs gt go : Gr} {yn : Int32} {sg : Nat → Int32} {oL : Int32} {S P Tx : Nat → Int32} {pasts runs typed : Int32}
theorem st_fill (h : SY B gN gl gs gt go yn sg oL S P Tx pasts runs typed) (hB : B < 2 ^ 28) (x1 x2 : Int32) : ∃ R R', f_X7_fill x1 x2 nw sp yl ys yt yo yn gN gS = some R ∧ f_X8_fill x1 x2 S P pasts runs = some R' ∧ R.1 = R'.1 ∧ CHG B nw sp yl ys yt yo gN gl gs gt go yn sg oL Tx runs typed R.2.1 R.2.2.1 R.2.2.2.1 R.2.2.2.2.1 R.2.2.2.2.2.1 R.2.2.2.2.2.2.1 R.2.2.2.2.2.2.2.1 R.2.2.2.2.2.2.2.2 R'.2.1 R'.2.2.1 R'.2.2.2 := by
  obtain ⟨σ, hs, tx, hg, hk, hK, rfl, hG, h1, h2, hm, hP, rfl⟩ := h
  obtain ⟨R, e, p⟩ := p_chg (gS := gS) (nw := nw) (sp := sp) (yl := yl) (ys := ys) (yt := yt) (yo := yo) (F_X1_fillIn x1 x2) hg hk hP.2.1 (fun g q => G_fillIn q hk x1 x2)
  obtain ⟨R', e', r⟩ := r_fill hP hm hk hK (Or.inl rfl) x1 x2
  exact ⟨R, R', e, e', chg_of hg hk hK hG h1 h2 hm hP (fun q => KK_up (K_fill hk q) (by omega)) p r⟩
theorem st_grind (h : SY B gN gl gs gt go yn sg oL S P Tx pasts runs typed) (hB : B < 2 ^ 28) (x1 x2 : Int32) : ∃ R R', f_X7_grind x1 x2 nw sp yl ys yt yo yn gN gS = some R ∧ f_X8_grind x1 x2 S P pasts runs = some R' ∧ R.1 = R'.1 ∧ CHG B nw sp yl ys yt yo gN gl gs gt go yn sg oL Tx runs typed R.2.1 R.2.2.1 R.2.2.2.1 R.2.2.2.2.1 R.2.2.2.2.2.1 R.2.2.2.2.2.2.1 R.2.2.2.2.2.2.2.1 R.2.2.2.2.2.2.2.2 R'.2.1 R'.2.2.1 R'.2.2.2 := by
  obtain ⟨σ, hs, tx, hg, hk, hK, rfl, hG, h1, h2, hm, hP, rfl⟩ := h
  obtain ⟨R, e, p⟩ := p_chg (gS := gS) (nw := nw) (sp := sp) (yl := yl) (ys := ys) (yt := yt) (yo := yo) (F_X1_grindBy x1 x2) hg hk hP.2.1 (fun g q => G_grindBy q hk hB x1 x2)
  obtain ⟨R', e', r⟩ := r_grind hP hm hk hK hB (Or.inl rfl) x1 x2
  exact ⟨R, R', e, e', chg_of hg hk hK hG h1 h2 hm hP (fun q => KK_up (K_grind hk q) (by omega)) p r⟩
theorem st_dial (h : SY B gN gl gs gt go yn sg oL S P Tx pasts runs typed) (hB : B < 2 ^ 28) (x1 x2 : Int32) : ∃ R R', f_X7_dial x1 x2 nw sp yl ys yt yo yn gN gS = some R ∧ f_X8_dial x1 x2 S P pasts runs = some R' ∧ R.1 = R'.1 ∧ CHG B nw sp yl ys yt yo gN gl gs gt go yn sg oL Tx runs typed R.2.1 R.2.2.1 R.2.2.2.1 R.2.2.2.2.1 R.2.2.2.2.2.1 R.2.2.2.2.2.2.1 R.2.2.2.2.2.2.2.1 R.2.2.2.2.2.2.2.2 R'.2.1 R'.2.2.1 R'.2.2.2 := by
  obtain ⟨σ, hs, tx, hg, hk, hK, rfl, hG, h1, h2, hm, hP, rfl⟩ := h
  obtain ⟨R, e, p⟩ := p_chg (gS := gS) (nw := nw) (sp := sp) (yl := yl) (ys := ys) (yt := yt) (yo := yo) (F_X1_turnDial x1 x2) hg hk hP.2.1 (fun g q => G_turnDial q hk x1 x2)
  obtain ⟨R', e', r⟩ := r_dial hP hm hk hK (Or.inl rfl) x1 x2
  exact ⟨R, R', e, e', chg_of hg hk hK hG h1 h2 hm hP (fun q => KK_up (K_dial hk q) (by omega)) p r⟩
theorem st_rest (h : SY B gN gl gs gt go yn sg oL S P Tx pasts runs typed) (hB : B < 2 ^ 28) (x1 : Int32) : ∃ R R', f_X7_rest x1 nw sp yl ys yt yo yn gN gS = some R ∧ f_X8_rest x1 S P pasts runs = some R' ∧ R.1 = R'.1 ∧ CHG B nw sp yl ys yt yo gN gl gs gt go yn sg oL Tx runs typed R.2.1 R.2.2.1 R.2.2.2.1 R.2.2.2.2.1 R.2.2.2.2.2.1 R.2.2.2.2.2.2.1 R.2.2.2.2.2.2.2.1 R.2.2.2.2.2.2.2.2 R'.2.1 R'.2.2.1 R'.2.2.2 := by
  obtain ⟨σ, hs, tx, hg, hk, hK, rfl, hG, h1, h2, hm, hP, rfl⟩ := h
  obtain ⟨R, e, p⟩ := p_chg (gS := gS) (nw := nw) (sp := sp) (yl := yl) (ys := ys) (yt := yt) (yo := yo) (F_X1_letPass x1) hg hk hP.2.1 (fun g q => G_letPass q hk hB x1)
  obtain ⟨R', e', r⟩ := r_rest hP hm hk hK hB (Or.inl rfl) x1
  exact ⟨R, R', e, e', chg_of hg hk hK hG h1 h2 hm hP (fun q => KK_up (K_rest hk q) (by omega)) p r⟩
theorem st_shot (h : SY B gN gl gs gt go yn sg oL S P Tx pasts runs typed) (hB : B < 2 ^ 28) : ∃ R R', f_X7_shot nw sp yl ys yt yo yn gN gS = some R ∧ f_X8_shot S P pasts runs = some R' ∧ R.1 = R'.1 ∧ CHG B nw sp yl ys yt yo gN gl gs gt go yn sg oL Tx runs typed R.2.1 R.2.2.1 R.2.2.2.1 R.2.2.2.2.1 R.2.2.2.2.2.1 R.2.2.2.2.2.2.1 R.2.2.2.2.2.2.2.1 R.2.2.2.2.2.2.2.2 R'.2.1 R'.2.2.1 R'.2.2.2 := by
  obtain ⟨σ, hs, tx, hg, hk, hK, rfl, hG, h1, h2, hm, hP, rfl⟩ := h
  obtain ⟨R, e, p⟩ := p_chg (gS := gS) (nw := nw) (sp := sp) (yl := yl) (ys := ys) (yt := yt) (yo := yo) F_X1_makeShot hg hk hP.2.1 (fun g q => by
    obtain ⟨R, z1, z2, z3⟩ := G_makeShot q hk hB
    exact ⟨R, z1, z2, fun z => (z3 z).2⟩)
  obtain ⟨R', e', r⟩ := r_shot hP hm hk hK hB (Or.inl rfl)
  exact ⟨R, R', e, e', chg_of hg hk hK hG h1 h2 hm hP (fun _ => KK_up (K_shot hk) (by omega)) p r⟩
theorem st_purge (h : SY B gN gl gs gt go yn sg oL S P Tx pasts runs typed) (hB : B < 2 ^ 28) : ∃ R R', f_X7_purge nw sp yl ys yt yo yn gN gS = some R ∧ f_X8_purge S P pasts runs = some R' ∧ R.1 = R'.1 ∧ CHG B nw sp yl ys yt yo gN gl gs gt go yn sg oL Tx runs typed R.2.1 R.2.2.1 R.2.2.2.1 R.2.2.2.2.1 R.2.2.2.2.2.1 R.2.2.2.2.2.2.1 R.2.2.2.2.2.2.2.1 R.2.2.2.2.2.2.2.2 R'.2.1 R'.2.2.1 R'.2.2.2 := by
  obtain ⟨σ, hs, tx, hg, hk, hK, rfl, hG, h1, h2, hm, hP, rfl⟩ := h
  obtain ⟨R, e, p⟩ := p_chg (gS := gS) (nw := nw) (sp := sp) (yl := yl) (ys := ys) (yt := yt) (yo := yo) F_X1_emptyChute hg hk hP.2.1 (fun g q => by
    obtain ⟨R, z1, z2, z3⟩ := G_emptyChute q
    exact ⟨R, z1, z2, fun _ => z3⟩)
  obtain ⟨R', e', r⟩ := r_purge hP hm hk hK (Or.inl rfl)
  exact ⟨R, R', e, e', chg_of hg hk hK hG h1 h2 hm hP (fun _ => KK_up (K_purge hk) (by omega)) p r⟩
theorem st_correct (h : SY B gN gl gs gt go yn sg oL S P Tx pasts runs typed) (hB : B < 2 ^ 28) (x1 : Int32) : ∃ R R', f_X7_correct x1 nw sp yl ys yt yo yn gN gS = some R ∧ f_X8_correct x1 S P pasts runs = some R' ∧ R.1 = R'.1 ∧ CHG B nw sp yl ys yt yo gN gl gs gt go yn sg oL Tx runs typed R.2.1 R.2.2.1 R.2.2.2.1 R.2.2.2.2.1 R.2.2.2.2.2.1 R.2.2.2.2.2.2.1 R.2.2.2.2.2.2.2.1 R.2.2.2.2.2.2.2.2 R'.2.1 R'.2.2.1 R'.2.2.2 := by
  obtain ⟨σ, hs, tx, hg, hk, hK, rfl, hG, h1, h2, hm, hP, rfl⟩ := h
  obtain ⟨R, e, p⟩ := p_chg (gS := gS) (nw := nw) (sp := sp) (yl := yl) (ys := ys) (yt := yt) (yo := yo) (F_X1_correctByLatest x1) hg hk hP.2.1 (fun g q => by
    obtain ⟨R, z1, z2, z3⟩ := G_correct q hk x1
    exact ⟨R, z1, z2, fun z => (z3 z).2⟩)
  obtain ⟨R', e', r⟩ := r_correct hP hm hk hK (Or.inl rfl) x1
  exact ⟨R, R', e, e', chg_of hg hk hK hG h1 h2 hm hP (fun _ => KK_up (K_corr _ hk) (by omega)) p r⟩
theorem st_set (h : SY B gN gl gs gt go yn sg oL S P Tx pasts runs typed) (hB : B < 2 ^ 28) (x1 x2 : Int32) : ∃ R R', f_X7_set x1 x2 nw sp yl ys yt yo yn gN gS = some R ∧ f_X8_set x1 x2 S P pasts runs = some R' ∧ R.1 = R'.1 ∧ CHG B nw sp yl ys yt yo gN gl gs gt go yn sg oL Tx runs typed R.2.1 R.2.2.1 R.2.2.2.1 R.2.2.2.2.1 R.2.2.2.2.2.1 R.2.2.2.2.2.2.1 R.2.2.2.2.2.2.2.1 R.2.2.2.2.2.2.2.2 R'.2.1 R'.2.2.1 R'.2.2.2 := by
  obtain ⟨σ, hs, tx, hg, hk, hK, rfl, hG, h1, h2, hm, hP, rfl⟩ := h
  obtain ⟨R, e, p⟩ := p_chg (gS := gS) (nw := nw) (sp := sp) (yl := yl) (ys := ys) (yt := yt) (yo := yo) (F_X1_changeSetting x1 x2) hg hk hP.2.1 (fun g q => G_changeSetting q x1 x2)
  obtain ⟨R', e', r⟩ := r_set hP hm hk hK (Or.inl rfl) x1 x2
  exact ⟨R, R', e, e', chg_of hg hk hK hG h1 h2 hm hP (fun q => KK_up (K_set hk q) (by omega)) p r⟩
theorem st_would (h : SY B gN gl gs gt go yn sg oL S P Tx pasts runs typed) (hB : B < 2 ^ 28) (Tr : Nat → Int32) (x1 x2 : Int32) : ∃ R R', f_X7_wouldTake x1 x2 nw sp gN gS = some R ∧ f_X8_wouldTake x1 x2 S Tr = some R' ∧ R.1 = R'.1 ∧ SY B gN gl gs gt go yn sg oL R'.2.1 P Tx pasts runs typed := by
  obtain ⟨σ, hs, tx, hg, hk, hK, rfl, hG, h1, h2, hm, hP, rfl⟩ := h
  obtain ⟨R, e, p⟩ := p_would (gS := gS) (nw := nw) (sp := sp) hg hk hB x1 x2
  obtain ⟨R', e', r1, r2⟩ := r_would (Tr := Tr) hm hk x1 x2
  exact ⟨R, R', e, e', p.trans r1.symm, σ, hs, tx, hg, hk, hK, rfl, hG, h1, h2, r2, hP, rfl⟩
theorem st_type (h : SY B gN gl gs gt go yn sg oL S P Tx pasts runs typed) (x1 : Int32) : ∃ R R', f_X7_type x1 sg oL = some R ∧ f_X8_type x1 Tx typed = some R' ∧ R.1 = R'.1 ∧ SY B gN gl gs gt go yn R.2.1 R.2.2 S P R'.2.1 pasts runs R'.2.2 := by
  obtain ⟨σ, hs, tx, hg, hk, hK, rfl, hG, h1, h2, hm, hP, rfl⟩ := h
  obtain ⟨R, R', e, e', q, tx', t1, t2⟩ := q_type h1 h2 x1
  exact ⟨R, R', e, e', q, σ, hs, tx', hg, hk, hK, rfl, hG, t1, t2, hm, hP, rfl⟩
theorem st_clear (h : SY B gN gl gs gt go yn sg oL S P Tx pasts runs typed) : ∃ R R', f_X7_clearText oL = some R ∧ f_X8_clearText typed = some R' ∧ R.1 = R'.1 ∧ SY B gN gl gs gt go yn sg R.2 S P Tx pasts runs R'.2 := by
  obtain ⟨σ, hs, tx, hg, hk, hK, rfl, hG, h1, h2, hm, hP, rfl⟩ := h
  exact ⟨_, _, rfl, rfl, h1.1.trans h2.1.symm, σ, hs, [], hg, hk, hK, rfl, hG, TX.nil _, TX.nil _, hm, hP, rfl⟩
theorem st_undo (h : SY B gN gl gs gt go yn sg oL S P Tx pasts runs typed) : ∃ R R', f_X7_undo nw yl ys yt yo yn = some R ∧ f_X8_undo S P pasts = some R' ∧ R.1 = R'.1 ∧ ((R.2.1 = nw ∧ R.2.2.1 = yl ∧ R.2.2.2.1 = ys ∧ R.2.2.2.2.1 = yt ∧ R.2.2.2.2.2.1 = yo ∧ SY B gN gl gs gt go R.2.2.2.2.2.2 sg oL R'.2.1 P Tx R'.2.2 runs typed) ∨ (R.2.1 = yl ∧ R.2.2.1 = ys ∧ R.2.2.2.1 = yt ∧ R.2.2.2.2.1 = yo ∧ R.2.2.2.2.2.1 = nw ∧ SY B gl gs gt go gN R.2.2.2.2.2.2 sg oL R'.2.1 P Tx R'.2.2 runs typed)) := by
  obtain ⟨σ, hs, tx, hg, hk, hK, rfl, hG, h1, h2, hm, hP, rfl⟩ := h
  have h4 := hP.2.1
  cases hs with
  | nil =>
    have ep : pasts = nI 0 := hP.1
    refine ⟨(cNP, nw, yl, ys, yt, yo, nI 0), (cNP, S, nI 0), ?_, by rw [ep]; exact r_undo0 S P, rfl, Or.inl ⟨rfl, rfl, rfl, rfl, rfl, σ, [], tx, hg, hk, hK, rfl, hG, h1, h2, hm, ⟨rfl, hP.2⟩, rfl⟩⟩
    rw [f_X7_undo, if_neg (by decide)]
    rfl
  | cons σ1 hs =>
    simp only [List.length_cons] at h4
    obtain ⟨S', a1, a2, a3⟩ := r_undo (S := S) hP (hK σ1 List.mem_cons_self)
    have e : (if (0 : Int32) < nI (hs.length + 1) - (1 : Int32) then nI (hs.length + 1) - (1 : Int32) else (0 : Int32)) = nI hs.length := by
      rw [nI_pred]
      by_cases z : hs.length = 0
      · rw [z]; rfl
      · rw [if_pos (show (0 : Int32) < nI hs.length from nI_lt (a := 0) (by omega) (by omega))]
    refine ⟨(nI hs.length, yl, ys, yt, yo, nw, nI hs.length), _, ?_, a1, rfl, Or.inr ⟨rfl, rfl, rfl, rfl, rfl, σ1, hs, tx, hG.1 σ1 rfl, hK σ1 List.mem_cons_self, fun τ hτ => hK τ (List.mem_cons_of_mem _ hτ), rfl, ⟨fun τ q => hG.2.1 τ q, fun τ q => hG.2.2.1 τ q, fun τ q => hG.2.2.2 τ q, fun τ q => ?_⟩, h1, h2, a2, a3, rfl⟩⟩
    · rw [List.length_cons, f_X7_undo, if_pos (show (1 : Int32) ≤ nI (hs.length + 1) from nI_le (a := 1) (by omega) (by omega)), f_X2_takeLatest, e, lt_v, Option.bind_some]
    · rw [List.getElem?_eq_none (by omega)] at q
      cases q
end ST
end
section
/-! fault and play -/
section ST2
variable {B nw sp yl ys yt yo : Nat} {gN gS gl gs gt go : Gr} {yn : Int32} {sg : Nat → Int32} {oL : Int32} {S P Tx : Nat → Int32} {pasts runs typed : Int32}
theorem p_all {tx : List Nat} {σ : Sp} {g : Gr} (h : TX tx sg oL) (hB : B + 200000 < 2 ^ 28) (hg : GR σ g) (hk : KK σ B) (oA oC oF oS oD oP oR oU : Int32) : ∃ R, f_X4_doAllOn sg oL oA oC oF oS oD oP oR oU g = some R ∧ (((pl tx tx.length 0 0 σ).1 = none ∧ R.2.2.2.2.2.2.1 = 0 ∧ R.2.2.2.2.1 = nI (pl tx tx.length 0 0 σ).2.1 ∧ GR (pl tx tx.length 0 0 σ).2.2 R.2.2.2.2.2.2.2.2) ∨ ∃ f, (pl tx tx.length 0 0 σ).1 = some f ∧ (f.2.1 = 1 ∨ f.2.1 = 2) ∧ R.2.2.2.2.2.2.1 = f.2.1 ∧ R.2.2.2.2.2.1 = nI f.1 ∧ R.2.2.2.2.2.2.2.1 = f.2.2) := by
  have hlen := h.2.1
  rw [f_X4_doAllOn]
  exact p_pl h hB tx.length 0 0 FU σ g oC oF oS oP oU (by omega) (by omega) (by omega) (by show _ < 20000; omega) hg hk
theorem r_all {tx : List Nat} {σ : Sp} {hs : List Sp} (h : TX tx Tx typed) (hB : B + 200000 < 2 ^ 28) (hP : PR hs P pasts) (hK : KH hs B) (hm : MR σ S) (hk : KK σ B) (told : Nat → Int32) (rr spot frm reas caus ords ordr : Int32) : ∃ R, f_X8_plays S P Tx told pasts rr typed spot frm reas caus ords ordr = some R ∧ R.2.2.1 = P ∧ R.2.2.2.2.1 = pasts ∧ R.2.2.2.2.2.1 = 0 ∧ (((pl tx tx.length 0 0 σ).1 = none ∧ R.1 = 1 ∧ R.2.2.2.2.2.2.2.2.2.2.1 = nI (pl tx tx.length 0 0 σ).2.1 ∧ MR (pl tx tx.length 0 0 σ).2.2 R.2.1) ∨ ∃ f, (pl tx tx.length 0 0 σ).1 = some f ∧ R.1 = 0 ∧ R.2.2.2.2.2.2.2.2.1 = f.2.1 ∧ R.2.2.2.2.2.2.2.1 = nI f.1 ∧ R.2.2.2.2.2.2.2.2.2.1 = f.2.2) := by
  have hlen := h.2.1
  rw [f_X8_plays]
  exact r_pl h hB hP hK tx.length 0 0 FU σ S told 0 reas caus ordr (by omega) (by omega) (by omega) (by show _ < 20000; omega) hm hk
theorem st_fault (h : SY B gN gl gs gt go yn sg oL S P Tx pasts runs typed) (hB : B + 200000 < 2 ^ 28) (x1 : Int32) (Hd told : Nat → Int32) (oA oC oF oS oD oP oR oU spot frm reas caus ords ordr : Int32) : ∃ R R', f_X7_fault x1 nw sp sg oL oA oC oF oS oD oP oR oU gN gS = some R ∧ f_X8_fault x1 S P Hd Tx told pasts runs typed spot frm reas caus ords ordr = some R' ∧ R.1 = R'.1 ∧ SY B gN gl gs gt go yn sg oL R'.2.1 R'.2.2.1 Tx R'.2.2.2.2.2.1 R'.2.2.2.2.2.2.1 typed := by
  obtain ⟨σ, hs, tx, hg, hk, hK, rfl, hG, h1, h2, hm, hP, rfl⟩ := h
  rw [f_X7_fault, f_X8_fault, r_in, Option.bind_some]
  by_cases c : x1 < 0 ∨ (2 : Int32) < x1
  · rw [rg_t c, if_pos c, if_pos rfl]
    exact ⟨_, _, rfl, rfl, rfl, σ, hs, tx, hg, hk, hK, rfl, hG, h1, h2, hm, hP, rfl⟩
  · rw [rg_f c, if_neg c, if_neg n10]
    obtain ⟨g1, e1, hg1⟩ := G_copyFrom hg hk gS
    obtain ⟨R1, e2, a1⟩ := p_all h1 hB hg1 hk oA oC oF oS oD oP oR oU
    obtain ⟨C1, b1, b2⟩ := r_copies S Hd
    obtain ⟨R2, e3, p1, p2, p3, a2⟩ := r_all h2 hB hP hK hm hk told 0 spot frm reas caus ords ordr
    obtain ⟨C2, b3, b4⟩ := r_copies C1 R2.2.1
    have hM : MR σ C2 := hm.of hk (fun i hi => (b4 i (by omega)).trans (b2 i (by omega)))
    rw [f_X7_spareLikeNow, e1, Option.bind_some, Option.bind_some, e2, Option.bind_some, b1, Option.bind_some, e3, Option.bind_some, b3, Option.bind_some, f_X4_tellFault, f_X4_hasFault]
    rcases a1 with ⟨q, s1, s2, s3⟩ | ⟨f, q, s1, s2, s3, s4⟩
    · rcases a2 with ⟨q', t1, t2, t3⟩ | ⟨f', q', t1, t2, t3, t4⟩
      · rw [s1, if_pos rfl, Option.bind_some, if_pos rfl, Option.bind_some, t1, if_neg n10]
        refine ⟨_, _, rfl, rfl, rfl, σ, hs, tx, hg, hk, hK, rfl, hG, h1, h2, hM, ?_, p3⟩
        show PR hs R2.2.2.1 R2.2.2.2.2.1
        rw [p1, p2]; exact hP
      · rw [q] at q'; cases q'
    · rcases a2 with ⟨q', t1, t2, t3⟩ | ⟨f', q', t1, t2, t3, t4⟩
      · rw [q] at q'; cases q'
      · rw [q] at q'
        cases q'
        have n0 : ¬ R1.2.2.2.2.2.2.1 = 0 := by
          rw [s2]
          rcases s1 with z | z <;> (rw [z]; decide)
        rw [if_neg n0, Option.bind_some, if_neg n10, t1, if_pos rfl]
        have hPP : PR hs R2.2.2.1 R2.2.2.2.2.1 := by rw [p1, p2]; exact hP
        by_cases x0 : x1 = 0
        · rw [if_pos x0, if_pos x0, Option.bind_some]
          exact ⟨_, _, rfl, rfl, s3.trans t3.symm, σ, hs, tx, hg, hk, hK, rfl, hG, h1, h2, hM, hPP, p3⟩
        · rw [if_neg x0, if_neg x0]
          by_cases x1' : x1 = 1
          · rw [if_pos x1', if_pos x1', Option.bind_some]
            exact ⟨_, _, rfl, rfl, s2.trans t2.symm, σ, hs, tx, hg, hk, hK, rfl, hG, h1, h2, hM, hPP, p3⟩
          · rw [if_neg x1', if_neg x1', Option.bind_some]
            exact ⟨_, _, rfl, rfl, s4.trans t4.symm, σ, hs, tx, hg, hk, hK, rfl, hG, h1, h2, hM, hPP, p3⟩
theorem st_play (h : SY B gN gl gs gt go yn sg oL S P Tx pasts runs typed) (hB : B + 400000 < 2 ^ 28) (Hd told : Nat → Int32) (oA oC oF oS oD oP oR oU spot frm reas caus ords ordr : Int32) : ∃ R R', f_X7_play nw sp yl ys yt yo yn sg oL oA oC oF oS oD oP oR oU gN gS = some R ∧ f_X8_play S P Hd Tx told pasts runs typed spot frm reas caus ords ordr = some R' ∧ R.1 = R'.1 ∧ CHG B nw sp yl ys yt yo gN gl gs gt go yn sg oL Tx R'.2.2.2.2.2.2.1 typed R.2.1 R.2.2.1 R.2.2.2.1 R.2.2.2.2.1 R.2.2.2.2.2.1 R.2.2.2.2.2.2.1 R.2.2.2.2.2.2.2.1 R.2.2.2.2.2.2.2.2.2.2.2.2.2.2.2.2 R'.2.1 R'.2.2.1 R'.2.2.2.2.2.1 := by
  obtain ⟨σ, hs, tx, hg, hk, hK, rfl, hG, h1, h2, hm, hP, rfl⟩ := h
  have hlen := h1.2.1
  obtain ⟨g1, e1, hg1⟩ := G_copyFrom hg hk gS
  obtain ⟨R1, e2, a1⟩ := p_all h1 (by omega) hg1 hk oA oC oF oS oD oP oR oU
  obtain ⟨C1, b1, b2⟩ := r_copies S Hd
  obtain ⟨R2, e3, p1, p2, p3, a2⟩ := r_all h2 (by omega) hP hK hm hk told 0 spot frm reas caus ords ordr
  obtain ⟨C2, b3, b4⟩ := r_copies C1 R2.2.1
  have hM : MR σ C2 := hm.of hk (fun i hi => (b4 i (by omega)).trans (b2 i (by omega)))
  rw [f_X7_play, f_X8_play, f_X7_spareLikeNow, e1, Option.bind_some, Option.bind_some, e2, Option.bind_some, b1, Option.bind_some, e3, Option.bind_some, b3, Option.bind_some, f_X4_hasFault]
  rcases a1 with ⟨q, s1, s2, s3⟩ | ⟨f, q, s1, s2, s3, s4⟩
  · rcases a2 with ⟨q', t1, t2, t3⟩ | ⟨f', q', t1, t2, t3, t4⟩
    · obtain ⟨P', pasts', c1, c2⟩ := r_changes (S := C2) hP hM hk hK
      have hK2 : KH ((σ :: hs).take 4) B := hK.push hk (Nat.le_refl _)
      obtain ⟨R3, e4, u1, u2, u3, a3⟩ := r_all (S := C2) h2 (by omega) c2 hK2 hM hk R2.2.2.2.1 R2.2.2.2.2.2.1 R2.2.2.2.2.2.2.1 R2.2.2.2.2.2.2.2.1 R2.2.2.2.2.2.2.2.2.1 R2.2.2.2.2.2.2.2.2.2.1 R2.2.2.2.2.2.2.2.2.2.2.1 R2.2.2.2.2.2.2.2.2.2.2.2
      obtain ⟨kk, kl⟩ := pl_K (B := B) tx tx.length 0 0 σ (by omega) (by omega) hk q
      rcases a3 with ⟨-, w1, w2, w3⟩ | ⟨f', q', -⟩
      · have hl : ((σ :: hs).take 4).length = min 4 (hs.length + 1) := by rw [List.length_take]; rfl
        rw [s1, if_pos rfl, Option.bind_some, if_pos rfl, f_X7_play_J34, p_keep hP.2.1, Option.bind_some, t1, if_neg n10, p1, p2, p3, c1, Option.bind_some]
        rw [p3] at e4
        rw [e4, Option.bind_some, w1, if_neg n10, s2, if_pos (nI_pos' (by omega))]
        refine ⟨_, _, rfl, rfl, w2.symm, Or.inr ⟨rfl, rfl, rfl, rfl, rfl, rfl, (pl tx tx.length 0 0 σ).2.2, (σ :: hs).take 4, tx, s3, KK_up kk (by omega), hK.push hk (by omega), by rw [hl], hG.push hg, h1, h2, w3, ?_, u3⟩⟩
        show PR _ R3.2.2.1 R3.2.2.2.2.1
        rw [u1, u2]
        exact c2
      · rw [q] at q'; cases q'
    · rw [q] at q'; cases q'
  · rcases a2 with ⟨q', t1, t2, t3⟩ | ⟨f', q', t1, t2, t3, t4⟩
    · rw [q] at q'; cases q'
    · have n0 : ¬ R1.2.2.2.2.2.2.1 = 0 := by
        rw [s2]
        rcases s1 with z | z <;> (rw [z]; decide)
      rw [if_neg n0, Option.bind_some, if_neg n10, f_X7_play_J34, p_keep hP.2.1, Option.bind_some, t1, if_pos rfl, if_neg (by decide)]
      refine ⟨_, _, rfl, rfl, rfl, Or.inl ⟨rfl, rfl, rfl, rfl, rfl, rfl, σ, hs, tx, hg, KK_up hk (by omega), fun τ hτ => KK_up (hK τ hτ) (by omega), rfl, hG, h1, h2, hM, ?_, p3⟩⟩
      show PR hs R2.2.2.1 R2.2.2.2.2.1
      rw [p1, p2]
      exact hP
/-! the queries, with the state's parts named -/
theorem st_burrOf (h : SY B gN gl gs gt go yn sg oL S P Tx pasts runs typed) (x1 x2 : Int32) : ∃ r, f_X7_burrOf x1 x2 nw gN.2.2.2.2.1 gN.2.2.2.2.2.1 gN.2.2.2.2.2.2.1 gN.2.2.2.2.2.2.2.1 gN.2.2.2.2.2.2.2.2.1 gN.2.2.2.2.2.2.2.2.2.1 gN.2.2.2.2.2.2.2.2.2.2.1 gN.2.2.2.2.2.2.2.2.2.2.2.1 = some r ∧ f_X8_burrOf x1 x2 S = some r := by
  obtain ⟨σ, hs, tx, hg, hk, hK, rfl, hG, h1, h2, hm, hP, rfl⟩ := h
  obtain ⟨hlo, hb0, hb1, hch, hba, hKs, hmk, hst, hse, hfi, hgr, hbr, hpu, hnr⟩ := hg
  exact q_burrOf hb0 hb1 hm hk x1 x2
theorem st_lotOf (h : SY B gN gl gs gt go yn sg oL S P Tx pasts runs typed) (x1 x2 : Int32) : ∃ r, f_X7_lotOf x1 x2 nw gN.1 gN.2.1 gN.2.2.1 = some r ∧ f_X8_lotOf x1 x2 S = some r := by
  obtain ⟨σ, hs, tx, hg, hk, hK, rfl, hG, h1, h2, hm, hP, rfl⟩ := h
  obtain ⟨hlo, hb0, hb1, hch, hba, hKs, hmk, hst, hse, hfi, hgr, hbr, hpu, hnr⟩ := hg
  exact q_lotOf hlo hm hk x1 x2
theorem st_portionOf (h : SY B gN gl gs gt go yn sg oL S P Tx pasts runs typed) (x1 x2 x3 : Int32) : ∃ r, f_X7_portionOf x1 x2 x3 nw gN.2.2.2.2.2.2.2.2.2.2.2.2.1 gN.2.2.2.2.2.2.2.2.2.2.2.2.2.1 gN.2.2.2.2.2.2.2.2.2.2.2.2.2.2.1 gN.2.2.2.2.2.2.2.2.2.2.2.2.2.2.2.2.1 gN.2.2.2.2.2.2.2.2.2.2.2.2.2.2.2.2.2.1 gN.2.2.2.2.2.2.2.2.2.2.2.2.2.2.2.2.2.2.1 gN.2.2.2.2.2.2.2.2.2.2.2.2.2.2.2.2.2.2.2.2.2.2.2.1 = some r ∧ f_X8_portionOf x1 x2 x3 S = some r := by
  obtain ⟨σ, hs, tx, hg, hk, hK, rfl, hG, h1, h2, hm, hP, rfl⟩ := h
  obtain ⟨hlo, hb0, hb1, hch, hba, hKs, hmk, hst, hse, hfi, hgr, hbr, hpu, hnr⟩ := hg
  exact q_portionOf hch hba hst hm hk x1 x2 x3
theorem st_shotOf (h : SY B gN gl gs gt go yn sg oL S P Tx pasts runs typed) (x1 x2 : Int32) : ∃ r, f_X7_shotOf x1 x2 nw gN.2.2.2.2.2.2.2.2.2.2.2.2.2.2.2.2.2.2.2.2.1 gN.2.2.2.2.2.2.2.2.2.2.2.2.2.2.2.2.2.2.2.2.2.1 gN.2.2.2.2.2.2.2.2.2.2.2.2.2.2.2.2.2.2.2.2.2.2.2.1 = some r ∧ f_X8_shotOf x1 x2 S = some r := by
  obtain ⟨σ, hs, tx, hg, hk, hK, rfl, hG, h1, h2, hm, hP, rfl⟩ := h
  obtain ⟨hlo, hb0, hb1, hch, hba, hKs, hmk, hst, hse, hfi, hgr, hbr, hpu, hnr⟩ := hg
  exact q_shotOf hKs hst hm hk x1 x2
theorem st_best (h : SY B gN gl gs gt go yn sg oL S P Tx pasts runs typed) (x1 : Int32) : ∃ r, f_X7_best x1 nw gN.2.2.2.2.2.2.2.2.2.2.2.2.2.2.2.2.2.2.2.2.1 gN.2.2.2.2.2.2.2.2.2.2.2.2.2.2.2.2.2.2.2.2.2.1 gN.2.2.2.2.2.2.2.2.2.2.2.2.2.2.2.2.2.2.2.2.2.2.2.1 = some r ∧ f_X8_best x1 S = some r := by
  obtain ⟨σ, hs, tx, hg, hk, hK, rfl, hG, h1, h2, hm, hP, rfl⟩ := h
  obtain ⟨hlo, hb0, hb1, hch, hba, hKs, hmk, hst, hse, hfi, hgr, hbr, hpu, hnr⟩ := hg
  exact q_best hKs hst hm hk x1
theorem st_dialFor (h : SY B gN gl gs gt go yn sg oL S P Tx pasts runs typed) (x1 x2 : Int32) : ∃ r, f_X7_dialFor x1 x2 nw gN.2.2.2.2.2.1 gN.2.2.2.2.2.2.2.2.2.1 gN.2.2.2.2.2.2.2.2.2.2.2.2.2.2.2.2.2.2.2.2.2.2.2.1 = some r ∧ f_X8_dialFor x1 x2 S = some r := by
  obtain ⟨σ, hs, tx, hg, hk, hK, rfl, hG, h1, h2, hm, hP, rfl⟩ := h
  obtain ⟨hlo, hb0, hb1, hch, hba, hKs, hmk, hst, hse, hfi, hgr, hbr, hpu, hnr⟩ := hg
  exact q_dialFor hb0 hb1 hst hm hk x1 x2
theorem st_stale (h : SY B gN gl gs gt go yn sg oL S P Tx pasts runs typed) (x1 : Int32) : ∃ r, f_X7_stale x1 nw gN.2.1 gN.2.2.1 gN.2.2.2.2.1 gN.2.2.2.2.2.1 gN.2.2.2.2.2.2.2.2.1 gN.2.2.2.2.2.2.2.2.2.1 gN.2.2.2.2.2.2.2.2.2.2.2.2.1 gN.2.2.2.2.2.2.2.2.2.2.2.2.2.1 gN.2.2.2.2.2.2.2.2.2.2.2.2.2.2.1 = some r ∧ f_X8_stale x1 S = some r := by
  obtain ⟨σ, hs, tx, hg, hk, hK, rfl, hG, h1, h2, hm, hP, rfl⟩ := h
  obtain ⟨hlo, hb0, hb1, hch, hba, hKs, hmk, hst, hse, hfi, hgr, hbr, hpu, hnr⟩ := hg
  exact q_stale hb0 hb1 hlo hch hm hk x1
theorem st_coolAfter (h : SY B gN gl gs gt go yn sg oL S P Tx pasts runs typed) (hB : B < 2 ^ 28) (x1 x2 : Int32) : ∃ r, f_X7_coolAfter x1 x2 nw gN.2.2.2.2.2.1 gN.2.2.2.2.2.2.2.2.2.1 gN.2.2.2.2.2.2.2.2.2.2.2.2.2.2.2.2.2.2.2.2.2.2.2.2.1 = some r ∧ f_X8_coolAfter x1 x2 S = some r := by
  obtain ⟨σ, hs, tx, hg, hk, hK, rfl, hG, h1, h2, hm, hP, rfl⟩ := h
  obtain ⟨hlo, hb0, hb1, hch, hba, hKs, hmk, hst, hse, hfi, hgr, hbr, hpu, hnr⟩ := hg
  exact q_coolAfter hb0 hb1 hse hm hk hB x1 x2
theorem st_count (h : SY B gN gl gs gt go yn sg oL S P Tx pasts runs typed) (x1 : Int32) : ∃ r, f_X7_count x1 nw yn oL gN.2.2.2.1 gN.2.2.2.2.2.2.2.2.2.2.2.2.2.2.2.1 gN.2.2.2.2.2.2.2.2.2.2.2.2.2.2.2.2.2.2.2.1 gN.2.2.2.2.2.2.2.2.2.2.2.2.2.2.2.2.2.2.2.2.2.2.1 gN.2.2.2.2.2.2.2.2.2.2.2.2.2.2.2.2.2.2.2.2.2.2.2.1 gN.2.2.2.2.2.2.2.2.2.2.2.2.2.2.2.2.2.2.2.2.2.2.2.2.1 gN.2.2.2.2.2.2.2.2.2.2.2.2.2.2.2.2.2.2.2.2.2.2.2.2.2.1 gN.2.2.2.2.2.2.2.2.2.2.2.2.2.2.2.2.2.2.2.2.2.2.2.2.2.2.1 gN.2.2.2.2.2.2.2.2.2.2.2.2.2.2.2.2.2.2.2.2.2.2.2.2.2.2.2.1 gN.2.2.2.2.2.2.2.2.2.2.2.2.2.2.2.2.2.2.2.2.2.2.2.2.2.2.2.2.1 gN.2.2.2.2.2.2.2.2.2.2.2.2.2.2.2.2.2.2.2.2.2.2.2.2.2.2.2.2.2 = some r ∧ f_X8_count x1 S pasts typed = some r := by
  obtain ⟨σ, hs, tx, hg, hk, hK, rfl, hG, h1, h2, hm, hP, rfl⟩ := h
  obtain ⟨hlo, hb0, hb1, hch, hba, hKs, hmk, hst, hse, hfi, hgr, hbr, hpu, hnr⟩ := hg
  rw [h1.1, hP.1, h2.1]
  exact q_count hlo.2.1 hch.2.1 hba.2.1 hmk hst hse hfi hgr hbr hpu hnr hm hk x1
end ST2
end
