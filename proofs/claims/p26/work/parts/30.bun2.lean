/-! settings; copying; what is kept -/
def lsN (i : Nat) : Nat := if i = 0 then 100 else if i = 3 ∨ i = 4 then 30 else 0
def msN (i : Nat) : Nat := if i = 0 then 600 else if i = 1 then 200 else if i = 2 then 100 else if i = 5 then 1 else 300
theorem six {i : Nat} (h : i < 6) : i = 0 ∨ i = 1 ∨ i = 2 ∨ i = 3 ∨ i = 4 ∨ i = 5 := by omega
theorem tbL_N {i : Nat} (h : i < 6) : tbL i = nI (lsN i) := by
  rcases six h with rfl | rfl | rfl | rfl | rfl | rfl <;> rfl
theorem tbM_N {i : Nat} (h : i < 6) : tbM i = nI (msN i) := by
  rcases six h with rfl | rfl | rfl | rfl | rfl | rfl <;> rfl
theorem msN_le (i : Nat) : msN i ≤ 600 := by
  unfold msN
  repeat' split
  all_goals omega
theorem lsN_le (i : Nat) : lsN i ≤ 100 := by
  unfold lsN
  split
  · omega
  · split <;> omega
noncomputable def a_set (x1 x2 : Int32) (v : Nat → Nat) : Int32 := by
  classical
  exact if x1 < 0 ∨ 6 ≤ nx x1 then cIA else if x2 < nI (lsN (nx x1)) ∨ nI (msN (nx x1)) < x2 then cIA else nI (v (nx x1))
theorem aset_ok {x1 x2 : Int32} {v : Nat → Nat} (h : 0 ≤ a_set x1 x2 v) : nx x1 < 6 ∧ x1 = nI (nx x1) ∧ lsN (nx x1) ≤ nx x2 ∧ nx x2 ≤ msN (nx x1) ∧ x2 = nI (nx x2) ∧ a_set x1 x2 v = nI (v (nx x1)) := by
  unfold a_set at h ⊢
  by_cases c1 : x1 < 0 ∨ 6 ≤ nx x1
  · rw [if_pos c1] at h; exact absurd h (by decide)
  · rw [if_neg c1] at h ⊢
    by_cases c2 : x2 < nI (lsN (nx x1)) ∨ nI (msN (nx x1)) < x2
    · rw [if_pos c2] at h; exact absurd h (by decide)
    · rw [if_neg c2]
      obtain ⟨j, hj, rfl⟩ := nI_of (fun q => c1 (Or.inl q))
      have e1 : ¬ x2 < 0 := fun q => c2 (Or.inl (by
        have : (0 : Int32) ≤ nI (lsN (nx (nI j))) := nI_pos' (Nat.lt_of_le_of_lt (lsN_le _) (by decide))
        rw [Int32.lt_iff_toInt_lt] at q ⊢
        rw [Int32.le_iff_toInt_le] at this
        omega))
      obtain ⟨a, ha, rfl⟩ := nI_of e1
      have hm := msN_le (nx (nI j))
      have e2 : nx (nI j) = j := v_cl hj
      have e3 : nx (nI a) = a := v_cl ha
      rw [e2] at c1 c2 hm ⊢
      rw [e3]
      refine ⟨Nat.not_le.mp (fun q => c1 (Or.inr q)), rfl, ?_, ?_, rfl, rfl⟩
      · exact Nat.not_lt.mp (fun q => c2 (Or.inl (nI_lt q (Nat.lt_of_le_of_lt (lsN_le _) (by decide)))))
      · exact Nat.not_lt.mp (fun q => c2 (Or.inr (nI_lt q ha)))
theorem G_changeSetting {σ : Sp} {g : Gr} (h : GR σ g) (x1 x2 : Int32) : ∃ R, F_X1_changeSetting x1 x2 g = some R ∧ R.1 = a_set x1 x2 (v_st σ) ∧ (0 ≤ R.1 → GR (o_set (nx x1) (nx x2) σ) R.2) := by
  obtain ⟨hlo, hb0, hb1, hch, hba, hK, hmk, hst, hse, hfi, hgr, hbr, hpu, hnr⟩ := h
  rw [F_X1_changeSetting, f_X1_changeSetting]
  have hz := fun q => aset_ok (x1 := x1) (x2 := x2) (v := v_st σ) q
  revert hz
  unfold a_set
  by_cases c1 : x1 < 0 ∨ 6 ≤ nx x1
  · intro _
    rw [if_pos c1]
    have : (if x1 < 0 then some ((-1000001 : Int32), g.2.2.2.2.2.2.2.2.2.2.2.2.2.2.2.2.2.2.2.2.2.2.2.1) else (if (6 : Int32) ≤ x1 then some ((-1000001 : Int32), g.2.2.2.2.2.2.2.2.2.2.2.2.2.2.2.2.2.2.2.2.2.2.2.1) else none)) = some ((-1000001 : Int32), g.2.2.2.2.2.2.2.2.2.2.2.2.2.2.2.2.2.2.2.2.2.2.2.1) := by
      by_cases c2 : x1 < 0
      · rw [if_pos c2]
      · obtain ⟨j, hj, rfl⟩ := nI_of c2
        rw [if_neg c2, if_pos]
        rcases c1 with c1 | c1
        · exact absurd c1 c2
        · rw [show nx (nI j) = j from v_cl hj] at c1
          rw [fa_L]
          exact nI_le c1 hj
    by_cases c2 : x1 < 0
    · rw [if_pos c2]
      simp only [Option.bind_some]
      exact ⟨_, rfl, rfl, (by first | exact ngA | exact ngB | exact ngC | exact ngD)⟩
    · rw [if_neg c2] at this ⊢
      by_cases c3 : (6 : Int32) ≤ x1
      · rw [if_pos c3]
        simp only [Option.bind_some]
        exact ⟨_, rfl, rfl, (by first | exact ngA | exact ngB | exact ngC | exact ngD)⟩
      · rw [if_neg c3] at this
        cases this
  · rw [if_neg c1]
    intro hz
    obtain ⟨j, hj, rfl⟩ := nI_of (fun q => c1 (Or.inl q))
    have ej : nx (nI j) = j := v_cl hj
    rw [ej] at c1 hz ⊢
    have hj6 : j < 6 := Nat.not_le.mp (fun q => c1 (Or.inr q))
    have hg := nI_in (c := j) (N := 6) hj6 (by decide)
    rw [if_neg (nI_pos hj), if_neg (by rw [fa_L]; exact nI_ge hj6 (by decide))]
    simp only [gd_t hg, lt_v]
    simp only [v_cl hj, tbL_N hj6, tbM_N hj6]
    by_cases c2 : x2 < nI (lsN j)
    · rw [if_pos c2, if_pos (Or.inl c2)]
      simp only [Option.bind_some]
      exact ⟨_, rfl, rfl, (by first | exact ngA | exact ngB | exact ngC | exact ngD)⟩
    · rw [if_neg c2]
      by_cases c3 : nI (msN j) < x2
      · rw [if_neg (Int32.not_le.mpr c3), if_pos (Or.inr c3)]
        simp only [Option.bind_some]
        exact ⟨_, rfl, rfl, (by first | exact ngA | exact ngB | exact ngC | exact ngD)⟩
      · rw [if_pos (Int32.not_lt.mp c3), if_neg (fun q => by rcases q with q | q; exact c2 q; exact c3 q)]
        simp only [Option.bind_some, lt_v]
        refine ⟨_, rfl, hst j hj6, fun q => ⟨hlo, hb0, hb1, hch, hba, hK, hmk, fun k hk => ?_, hse, hfi, hgr, hbr, hpu, hnr⟩⟩
        show upd _ j x2 k = nI (updN (v_st σ) j (nx x2) k)
        unfold updN
        by_cases e : k = j
        · subst e
          rw [pk_us, if_pos rfl]
          have hx : ¬ x2 < 0 := fun z => c2 (by
            have : (0 : Int32) ≤ nI (lsN k) := nI_pos' (Nat.lt_of_le_of_lt (lsN_le _) (by decide))
            rw [Int32.lt_iff_toInt_lt] at z ⊢
            rw [Int32.le_iff_toInt_le] at this
            omega)
          obtain ⟨a, ha, rfl⟩ := nI_of hx
          rw [show nx (nI a) = a from v_cl ha]
        · rw [pk_un e, if_neg e]
          exact hst k hk
theorem G_copyFrom {σ : Sp} {go : Gr} {B : Nat} (h : GR σ go) (hk : KK σ B) (g : Gr) : ∃ R, F_X1_copyFrom g go = some R ∧ GR σ R := by
  obtain ⟨hlo, hb0, hb1, hch, hba, hK, hmk, hst, hse, hfi, hgr, hbr, hpu, hnr⟩ := h
  obtain ⟨k1, k2, k3, k4, k5, k6, k7, k8, k9, k10, k11, k12, k13, k14⟩ := hk
  have l1 := len_tot k5
  have l2 := len_tot k8
  obtain ⟨R1, a1, b1⟩ := p_copyRow (N := 6) (A := g.1) (M := g.2.1) (n := g.2.2.1) (t := g.2.2.2.1) hlo k4 (by decide)
  obtain ⟨R2, a2, b2⟩ := p_copyRow (N := 106) (A := g.2.2.2.2.2.2.2.2.2.2.2.2.1) (M := g.2.2.2.2.2.2.2.2.2.2.2.2.2.1) (n := g.2.2.2.2.2.2.2.2.2.2.2.2.2.2.1) (t := g.2.2.2.2.2.2.2.2.2.2.2.2.2.2.2.1) hch (by omega) (by decide)
  obtain ⟨R3, a3, b3⟩ := p_copyRow (N := 400) (A := g.2.2.2.2.2.2.2.2.2.2.2.2.2.2.2.2.1) (M := g.2.2.2.2.2.2.2.2.2.2.2.2.2.2.2.2.2.1) (n := g.2.2.2.2.2.2.2.2.2.2.2.2.2.2.2.2.2.2.1) (t := g.2.2.2.2.2.2.2.2.2.2.2.2.2.2.2.2.2.2.2.1) hba (by omega) (by decide)
  obtain ⟨R4, a4, b4, b5⟩ := p_copyShots (f := g.2.2.2.2.2.2.2.2.2.2.2.2.2.2.2.2.2.2.2.2.1) hK (g.2.2.2.2.2.2.2.2.2.2.2.2.2.2.2.2.2.2.2.2.2.1) (g.2.2.2.2.2.2.2.2.2.2.2.2.2.2.2.2.2.2.2.2.2.2.1) (go.2.2.2.2.2.2.2.2.2.2.2.2.2.2.2.2.2.2.2.2.2.2.1)
  have hg : ¬ (0 : Int32) < 0 ∧ ¬ (0 : Int32) < 0 ∧ ¬ (6 : Int32) < 0 ∧ (0 : Int32).toNatClampNeg + (6 : Int32).toNatClampNeg ≤ 6 ∧ (0 : Int32).toNatClampNeg + (6 : Int32).toNatClampNeg ≤ 6 := by decide
  rw [F_X1_copyFrom, f_X1_copyFrom, f_X3_copyFrom, a1]
  simp only [Option.bind_some, f_X0_copyFrom]
  rw [a2]
  simp only [Option.bind_some]
  rw [a3]
  simp only [Option.bind_some]
  rw [a4]
  simp only [gd_t hg, lt_v]
  simp only [Option.bind_some]
  refine ⟨_, rfl, b1, hb0, hb1, b2, b3, b4, b5.trans hmk, fun k hk => ?_, hse, hfi, hgr, hbr, hpu, hnr⟩
  show va_cpy _ _ 0 0 6 k = _
  rw [pk_cpy_in (Nat.zero_le _) (by omega), Nat.zero_add, Nat.sub_zero]
  exact hst k hk
theorem G_time {σ : Sp} {g : Gr} {B : Nat} (h : GR σ g) (hk : KK σ B) : F_X1_timeOfBasket g = some (a_shot (v_st σ) (v_ba σ)) := by
  obtain ⟨hlo, hb0, hb1, hch, hba, hK, hmk, hst, hse, hfi, hgr, hbr, hpu, hnr⟩ := h
  obtain ⟨k1, k2, k3, k4, k5, k6, k7, k8, k9, k10, k11, k12, k13, k14⟩ := hk
  rw [F_X1_timeOfBasket, p_time hst k13 hba k8 k10]
  rfl
