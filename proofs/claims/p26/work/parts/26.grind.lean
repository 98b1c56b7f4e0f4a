/-! grinding -/
def bsel (b0 b1 : Bu) (b : Nat) : Bu := if b = 0 then b0 else b1
/-- the burrs behind a grinding by burr b -/
def bg0 (b0 : Bu) (b a n : Nat) : Bu := buC (if b = 0 then buG b0 a else b0) n
def bg1 (b1 : Bu) (b a n : Nat) : Bu := buC (if b = 0 then b1 else buG b1 a) n
noncomputable def a_grind (x1 x2 : Int32) (lo ch ba : List (Nat × Nat)) (c : Nat) : Int32 := by
  classical
  exact if bad2 x1 x2 400 then cIA else if tot lo < x2.toNatClampNeg then cNP else if 400 < tot ba + g_out ch x2.toNatClampNeg c then cLR else nI (g_out ch x2.toNatClampNeg c)
theorem buG_w (b : Bu) (a : Nat) (h : b.2.1 ≤ 300) : (buG b a).2.1 ≤ 300 := by show min 300 _ ≤ 300; omega
theorem p_grindBy {lo ch ba : List (Nat × Nat)} {b0 b1 : Bu} {v : Nat → Nat} {sec : Nat} {pA pM qA qM uA uM st : Nat → Int32} {pn pt d0 w0 g0 d1 w1 g1 qn qt un ut se gr i0 i1 : Int32} (hlo : rowR lo pA pM pn pt) (hch : rowR ch qA qM qn qt) (hba : rowR ba uA uM un ut) (h0 : buR b0 d0 w0 g0 i0) (h1 : buR b1 d1 w1 g1 i1) (hs : stR v st) (hse : se = nI sec) (k1 : okR lo) (k2 : ∀ p ∈ lo, p.2 < 2) (k3 : tot lo ≤ 4000) (k4 : lo.length ≤ 6) (k5 : okR ch) (k6 : tot ch ≤ 100) (k7 : okR ba) (k8 : tot ba ≤ 400) (k9 : buK b0) (k10 : buK b1) (k11 : stK v) (k12 : sec < 2 ^ 28) (x1 x2 : Int32) :
    ∃ R, f_X1_grindBy x1 x2 pA pM pn pt d0 w0 g0 d1 w1 g1 qA qM qn qt uA uM un ut st se gr = some R ∧ R.1 = a_grind x1 x2 lo ch ba (v 2) ∧ (0 ≤ R.1 → ∀ (b a : Nat), b < 2 → x1 = nI b → x2 = nI a → a < 2 ^ 31 →
      rowR (tk a lo).2 R.2.1 R.2.2.1 R.2.2.2.1 R.2.2.2.2.1 ∧
      (R.2.2.2.2.2.1 = nI (bg0 b0 b a (tmz sec ((a + 9) / 10))).2.1 ∧ R.2.2.2.2.2.2.1 = (bg0 b0 b a (tmz sec ((a + 9) / 10))).2.2.1) ∧
      (R.2.2.2.2.2.2.2.1 = nI (bg1 b1 b a (tmz sec ((a + 9) / 10))).2.1 ∧ R.2.2.2.2.2.2.2.2.1 = (bg1 b1 b a (tmz sec ((a + 9) / 10))).2.2.1) ∧
      rowR (tk (g_out ch a (v 2)) (g_in lo ch (bsel b0 b1 b).1 (bsel b0 b1 b).2.1 b a)).2 R.2.2.2.2.2.2.2.2.2.1 R.2.2.2.2.2.2.2.2.2.2.1 R.2.2.2.2.2.2.2.2.2.2.2.1 R.2.2.2.2.2.2.2.2.2.2.2.2.1 ∧
      rowR (ba ++ (tk (g_out ch a (v 2)) (g_in lo ch (bsel b0 b1 b).1 (bsel b0 b1 b).2.1 b a)).1) R.2.2.2.2.2.2.2.2.2.2.2.2.2.1 R.2.2.2.2.2.2.2.2.2.2.2.2.2.2.1 R.2.2.2.2.2.2.2.2.2.2.2.2.2.2.2.1 R.2.2.2.2.2.2.2.2.2.2.2.2.2.2.2.2.1 ∧
      R.2.2.2.2.2.2.2.2.2.2.2.2.2.2.2.2.2.1 = nI (sec + (a + 9) / 10) ∧ R.2.2.2.2.2.2.2.2.2.2.2.2.2.2.2.2.2.2 = gr + nI a) := by
  unfold a_grind
  rw [f_X1_grindBy]
  by_cases c1 : x1 = 0 ∨ x1 = 1
  · obtain ⟨b, hb, rfl⟩ := v01 c1
    rw [is01_t hb]
    simp only [Option.bind_some]
    rw [if_neg (by decide)]
    by_cases c2 : x2 < 1
    · rw [if_pos c2, if_pos (Or.inr (Or.inl c2))]
      exact ⟨_, rfl, rfl, (by first | exact ngA | exact ngB | exact ngC | exact ngD)⟩
    · rw [if_neg c2]
      by_cases c3 : (400 : Int32) < x2
      · rw [if_neg (Int32.not_le.mpr c3), if_pos (show bad2 _ _ 400 from Or.inr (Or.inr c3))]
        exact ⟨_, rfl, rfl, (by first | exact ngA | exact ngB | exact ngC | exact ngD)⟩
      · obtain ⟨a, ha1, ha2, rfl⟩ := v_rng (hi := 400) (by decide) c2 c3
        rw [if_pos (Int32.not_lt.mp c3), if_neg (show ¬ bad2 _ _ 400 from fun q => by rcases q with q | q | q; exact q c1; exact c2 q; exact c3 q), v_cl (by omega)]
        simp only [f_X3_amount, Option.bind_some]
        rw [hlo.2.1]
        by_cases c4 : tot lo < a
        · rw [if_neg (nI_ge c4 (by omega)), if_pos c4]
          exact ⟨_, rfl, rfl, (by first | exact ngA | exact ngB | exact ngC | exact ngD)⟩
        · have e2 : st (2 : Int32).toNatClampNeg = nI (v 2) := hs 2 (by decide)
          have hc : v 2 ≤ 100 := k11.2.2.2.1
          rw [if_pos (nI_le (by omega) (by omega)), if_neg c4, hch.2.1, e2, nI_add, p_maxz (by omega) (by omega), lt_v]
          have eo : tot ch + a - v 2 = g_out ch a (v 2) := rfl
          rw [eo, hba.2.1, nI_add, fa_lit 400]
          by_cases c5 : 400 < tot ba + g_out ch a (v 2)
          · have : g_out ch a (v 2) ≤ 500 := by unfold g_out; omega
            rw [if_neg (nI_ge c5 (by omega)), if_pos c5]
            exact ⟨_, rfl, rfl, (by first | exact ngA | exact ngB | exact ngC | exact ngD)⟩
          · rw [if_pos (nI_le (by omega) (by decide)), if_neg c5]
            obtain ⟨rfl, rfl, rfl, rfl⟩ := h0
            obtain ⟨rfl, rfl, rfl, rfl⟩ := h1
            subst hse
            have ht9 : nI a + (9 : Int32) = nI (a + 9) := by rw [fa_lit 9, nI_add]
            have ht : (nI a + (9 : Int32)) / 10 = nI ((a + 9) / 10) := by rw [ht9, fa_lit 10, pk_div (by omega) (by decide) (by decide)]
            rcases (show b = 0 ∨ b = 1 by omega) with rfl | rfl
            · obtain ⟨R, R2, r1, r2, r3, r4, r5⟩ := p_way (d := b0.1) (w := b0.2.1) (b := 0) (a := a) (c := v 2) hlo hch hba k1 k2 k3 k4 k5 k6 k7 k9.2.1 (by decide) (by omega) ha2 hc (by omega)
              rw [← hlo.2.1, ← hch.2.1, ← hba.2.1, if_pos nI_0, p_gap (by have := k9.2.1; omega) (by have := k9.2.2; omega)]
              simp only [Option.bind_some]
              rw [r1]
              simp only [Option.bind_some]
              rw [p_warm (by omega) (by have := k9.2.2; omega)]
              simp only [Option.bind_some]
              rw [r2]
              simp only [Option.bind_some, lt_v]
              rw [ht, p_pass (se := sec) (n := (a + 9) / 10) (w0 := min 300 (b0.2.1 + a / 4)) (w1 := b1.2.1) (by omega) (by omega) (buG_w b0 a k9.2.2) k10.2.2]
              simp only [Option.bind_some]
              refine ⟨_, rfl, rfl, fun _ b' a' hb' e1 e3 ha' => ?_⟩
              have q1 : b' = 0 := ((nI_eq (by omega) (by omega)).mp e1).symm
              have q2 : a' = a := ((nI_eq (by omega) ha').mp e3).symm
              subst q1; subst q2
              exact ⟨r3, ⟨rfl, rfl⟩, ⟨rfl, rfl⟩, r4, r5, rfl, rfl⟩
            · obtain ⟨R, R2, r1, r2, r3, r4, r5⟩ := p_way (d := b1.1) (w := b1.2.1) (b := 1) (a := a) (c := v 2) hlo hch hba k1 k2 k3 k4 k5 k6 k7 k10.2.1 (by decide) (by omega) ha2 hc (by omega)
              rw [← hlo.2.1, ← hch.2.1, ← hba.2.1, if_neg (by decide), p_gap (by have := k10.2.1; omega) (by have := k10.2.2; omega)]
              simp only [Option.bind_some]
              rw [r1]
              simp only [Option.bind_some]
              rw [p_warm (by omega) (by have := k10.2.2; omega)]
              simp only [Option.bind_some]
              rw [r2]
              simp only [Option.bind_some, lt_v]
              rw [ht, p_pass (se := sec) (n := (a + 9) / 10) (w0 := b0.2.1) (w1 := min 300 (b1.2.1 + a / 4)) (by omega) (by omega) k9.2.2 (buG_w b1 a k10.2.2)]
              simp only [Option.bind_some]
              refine ⟨_, rfl, rfl, fun _ b' a' hb' e1 e3 ha' => ?_⟩
              have q1 : b' = 1 := ((nI_eq (by omega) (by omega)).mp e1).symm
              have q2 : a' = a := ((nI_eq (by omega) ha').mp e3).symm
              subst q1; subst q2
              exact ⟨r3, ⟨rfl, rfl⟩, ⟨rfl, rfl⟩, r4, r5, rfl, rfl⟩
  · rw [is01_f c1]
    simp only [Option.bind_some]
    rw [if_pos trivial, if_pos (Or.inl c1)]
    exact ⟨_, rfl, rfl, (by first | exact ngA | exact ngB | exact ngC | exact ngD)⟩
