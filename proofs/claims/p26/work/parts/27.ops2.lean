/-! the other changes -/
noncomputable def a_dial (x1 x2 : Int32) (b0 b1 : Bu) : Int32 := by
  classical
  exact if bad2 x1 x2 60 then cIA else nI (bsel b0 b1 x1.toNatClampNeg).1
theorem p_turnDial {b0 b1 : Bu} (k0 : buK b0) (k1 : buK b1) (x1 x2 : Int32) : ∃ R, f_X1_turnDial x1 x2 (nI b0.1) (nI b1.1) = some R ∧ R.1 = a_dial x1 x2 b0 b1 ∧ (0 ≤ R.1 → ∀ (b a : Nat), b < 2 → x1 = nI b → x2 = nI a → a < 2 ^ 31 → R.2.1 = nI (if b = 0 then a else b0.1) ∧ R.2.2 = nI (if b = 0 then b1.1 else a)) := by
  unfold a_dial
  rw [f_X1_turnDial]
  by_cases c1 : x1 = 0 ∨ x1 = 1
  · obtain ⟨b, hb, rfl⟩ := v01 c1
    rw [is01_t hb]
    simp only [Option.bind_some]
    rw [if_neg (by decide)]
    by_cases c2 : x2 < 1
    · rw [if_pos c2, if_pos (Or.inr (Or.inl c2))]
      exact ⟨_, rfl, rfl, (by first | exact ngA | exact ngB | exact ngC | exact ngD)⟩
    · rw [if_neg c2]
      by_cases c3 : (60 : Int32) < x2
      · rw [if_neg (Int32.not_le.mpr c3), if_pos (show bad2 _ _ 60 from Or.inr (Or.inr c3))]
        exact ⟨_, rfl, rfl, (by first | exact ngA | exact ngB | exact ngC | exact ngD)⟩
      · obtain ⟨a, ha1, ha2, rfl⟩ := v_rng (hi := 60) (by decide) c2 c3
        rw [if_pos (Int32.not_lt.mp c3), if_neg (show ¬ bad2 _ _ 60 from fun q => by rcases q with q | q | q; exact q c1; exact c2 q; exact c3 q), v_cl (by omega)]
        rcases (show b = 0 ∨ b = 1 by omega) with rfl | rfl
        · rw [if_pos nI_0]
          refine ⟨_, rfl, rfl, fun _ b' a' hb' e1 e3 ha' => ?_⟩
          have q1 : b' = 0 := ((nI_eq (by omega) (by omega)).mp e1).symm
          have q2 : a' = a := ((nI_eq (by omega) ha').mp e3).symm
          subst q1; subst q2
          exact ⟨rfl, rfl⟩
        · rw [if_neg (by decide)]
          refine ⟨_, rfl, rfl, fun _ b' a' hb' e1 e3 ha' => ?_⟩
          have q1 : b' = 1 := ((nI_eq (by omega) (by omega)).mp e1).symm
          have q2 : a' = a := ((nI_eq (by omega) ha').mp e3).symm
          subst q1; subst q2
          exact ⟨rfl, rfl⟩
  · rw [is01_f c1]
    simp only [Option.bind_some]
    rw [if_pos trivial, if_pos (Or.inl c1)]
    exact ⟨_, rfl, rfl, (by first | exact ngA | exact ngB | exact ngC | exact ngD)⟩
noncomputable def a_rest (x1 : Int32) (w0 w1 sec : Nat) : Int32 := by
  classical
  exact if x1 < 1 ∨ nI 999 < x1 then cIA else nI (w0 + w1 - cl (tmz sec x1.toNatClampNeg) w0 - cl (tmz sec x1.toNatClampNeg) w1)
theorem p_letPass {w0 w1 sec : Nat} (h0 : w0 ≤ 300) (h1 : w1 ≤ 300) (hs : sec < 2 ^ 28) (x1 : Int32) : ∃ R, f_X1_letPass x1 (nI w0) (nI w1) (nI sec) = some R ∧ R.1 = a_rest x1 w0 w1 sec ∧ (0 ≤ R.1 → ∀ n : Nat, x1 = nI n → n < 2 ^ 31 → R.2.1 = nI (cl (tmz sec n) w0) ∧ R.2.2.1 = nI (cl (tmz sec n) w1) ∧ R.2.2.2 = nI (sec + n)) := by
  unfold a_rest
  rw [f_X1_letPass]
  by_cases c2 : x1 < 1
  · rw [if_pos c2, if_pos (Or.inl c2)]
    exact ⟨_, rfl, rfl, (by first | exact ngA | exact ngB | exact ngC | exact ngD)⟩
  · rw [if_neg c2]
    by_cases c3 : (999 : Int32) < x1
    · rw [if_neg (Int32.not_le.mpr c3), if_pos (show x1 < 1 ∨ nI 999 < x1 from Or.inr c3)]
      exact ⟨_, rfl, rfl, (by first | exact ngA | exact ngB | exact ngC | exact ngD)⟩
    · obtain ⟨a, ha1, ha2, rfl⟩ := v_rng (hi := 999) (by decide) c2 c3
      have l0 := cl_le (tmz sec a) w0
      have l1 := cl_le (tmz sec a) w1
      rw [if_pos (Int32.not_lt.mp c3), if_neg (show ¬ (nI a < 1 ∨ nI 999 < nI a) from fun q => by rcases q with q | q; exact c2 q; exact c3 q), v_cl (by omega), lt_v, p_pass (by omega) (by omega) h0 h1]
      simp only [Option.bind_some]
      refine ⟨_, rfl, ?_, fun _ n e hn => ?_⟩
      · show nI w0 + nI w1 - nI _ - nI _ = _
        rw [nI_add, pk_sub (by omega), pk_sub (by omega)]
      · have q : n = a := ((nI_eq (by omega) hn).mp e).symm
        subst q
        exact ⟨rfl, rfl, rfl⟩
theorem p_emptyChute (qn pu : Int32) (T : Nat) : f_X1_emptyChute qn (nI T) pu = some (nI T, 0, 0, pu + nI T) := rfl
/-- the burr of a shot, its kind -/
def mostly (b : Nat → Bool) (L : List (Nat × Nat)) : Nat := if tot L < 2 * sumIf b L then 1 else 0
def isB (m : Nat) : Bool := m / 2 % 2 == 1
def isK (m : Nat) : Bool := m % 2 == 1
/-- a burr that is corrected, if it has to be -/
def buX (b : Bu) (t g : Nat) : Bu := (cor b.1 t g, b.2.1, b.2.2.1, b.2.2.2 + 1)
theorem p_judge_0 {b : Bu} {v : Nat → Nat} {st : Nat → Int32} {t : Nat} (hs : stR v st) (hv : stK v) (hb : buK b) (ht : t ≤ 30000) (nr : Int32) : f_X1_judge_0 (nI t) (nI b.1) b.2.2.2 st nr = some (if aw t (v 0) ≤ v 1 then (nI b.1, b.2.2.2, nr + 1) else if v 5 = 1 then (nI (buX b t (v 0)).1, (buX b t (v 0)).2.2.2, nr) else (nI b.1, b.2.2.2, nr)) := by
  obtain ⟨v1, v2, v3, v4, v5, v6, v7, v8, v9⟩ := hv
  have e0 : st (0 : Int32).toNatClampNeg = nI (v 0) := hs 0 (by decide)
  have e1 : st (1 : Int32).toNatClampNeg = nI (v 1) := hs 1 (by decide)
  have e5 : st (5 : Int32).toNatClampNeg = nI (v 5) := hs 5 (by decide)
  have ha : aw t (v 0) < 2 ^ 30 := by unfold aw; split <;> omega
  rw [f_X1_judge_0, e0, e1, e5, p_absI (by omega) (by omega), lt_v]
  by_cases h : aw t (v 0) ≤ v 1
  · rw [if_neg (nI_nlt h (by omega)), if_pos h]
    rfl
  · rw [if_pos (nI_lt (by omega) (by omega)), if_neg h]
    by_cases h5 : v 5 = 1
    · rw [if_pos (by rw [h5]; rfl), if_pos h5, p_correct hb.2.1 ht v1 v2]
      rfl
    · rw [if_neg (show ¬ nI (v 5) = (1 : Int32) from fun q => h5 ((nI_eq (b := 1) (by omega) (by decide)).mp q)), if_neg h5]
theorem p_judge_1 {b : Bu} {v : Nat → Nat} {st : Nat → Int32} {t : Nat} (hs : stR v st) (hv : stK v) (hb : buK b) (ht : t ≤ 30000) (nr : Int32) : f_X1_judge_1 (nI t) (nI b.1) b.2.2.2 st nr = some (if aw t (v 0) ≤ v 1 then (nI b.1, b.2.2.2, nr + 1) else if v 5 = 1 then (nI (buX b t (v 0)).1, (buX b t (v 0)).2.2.2, nr) else (nI b.1, b.2.2.2, nr)) := by
  obtain ⟨v1, v2, v3, v4, v5, v6, v7, v8, v9⟩ := hv
  have e0 : st (0 : Int32).toNatClampNeg = nI (v 0) := hs 0 (by decide)
  have e1 : st (1 : Int32).toNatClampNeg = nI (v 1) := hs 1 (by decide)
  have e5 : st (5 : Int32).toNatClampNeg = nI (v 5) := hs 5 (by decide)
  have ha : aw t (v 0) < 2 ^ 30 := by unfold aw; split <;> omega
  rw [f_X1_judge_1, e0, e1, e5, p_absI (by omega) (by omega), lt_v]
  by_cases h : aw t (v 0) ≤ v 1
  · rw [if_neg (nI_nlt h (by omega)), if_pos h]
    rfl
  · rw [if_pos (nI_lt (by omega) (by omega)), if_neg h]
    by_cases h5 : v 5 = 1
    · rw [if_pos (by rw [h5]; rfl), if_pos h5, p_correct hb.2.1 ht v1 v2]
      rfl
    · rw [if_neg (show ¬ nI (v 5) = (1 : Int32) from fun q => h5 ((nI_eq (b := 1) (by omega) (by decide)).mp q)), if_neg h5]
