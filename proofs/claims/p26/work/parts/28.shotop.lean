/-! a shot -/
theorem hb_B {m : Nat} : nI m &&& (2 : Int32) = 0 ↔ isB m = false := by
  rw [fa_and2]
  unfold isB
  rcases Nat.mod_two_eq_zero_or_one (m / 2) with h | h
  · rw [h]; exact ⟨fun _ => rfl, fun _ => nI_0⟩
  · rw [h]
    exact ⟨fun q => absurd q (nI_ne0 (by decide) (by decide)), fun q => by cases q⟩
theorem hb_K {m : Nat} : nI m &&& (1 : Int32) = 0 ↔ isK m = false := by
  have e : nI m &&& (1 : Int32) = nI (m % 2) := fa_mask m 1
  rw [e]
  unfold isK
  rcases Nat.mod_two_eq_zero_or_one m with h | h
  · rw [h]; exact ⟨fun _ => rfl, fun _ => nI_0⟩
  · rw [h]
    exact ⟨fun q => absurd q (nI_ne0 (by decide) (by decide)), fun q => by cases q⟩
/-- the burr behind a shot's judging -/
def buJ (v : Nat → Nat) (t : Nat) (b : Bu) : Bu := if aw t (v 0) ≤ v 1 then b else if v 5 = 1 then buX b t (v 0) else b
theorem buJ_w (v : Nat → Nat) (t : Nat) (b : Bu) : (buJ v t b).2.1 = b.2.1 := by
  unfold buJ
  split
  · rfl
  · split <;> rfl
theorem buJ_g (v : Nat → Nat) (t : Nat) (b : Bu) : (buJ v t b).2.2.1 = b.2.2.1 := by
  unfold buJ
  split
  · rfl
  · split <;> rfl
def nrJ (v : Nat → Nat) (t : Nat) (nr : Int32) : Int32 := if aw t (v 0) ≤ v 1 then nr + 1 else nr
theorem p_judge0 {b : Bu} {v : Nat → Nat} {st : Nat → Int32} {t : Nat} (hs : stR v st) (hv : stK v) (hb : buK b) (ht : t ≤ 30000) (nr : Int32) : f_X1_judge_0 (nI t) (nI b.1) b.2.2.2 st nr = some (nI (buJ v t b).1, (buJ v t b).2.2.2, nrJ v t nr) := by
  rw [p_judge_0 hs hv hb ht]
  unfold buJ nrJ
  split
  · rfl
  · split <;> rfl
theorem p_judge1 {b : Bu} {v : Nat → Nat} {st : Nat → Int32} {t : Nat} (hs : stR v st) (hv : stK v) (hb : buK b) (ht : t ≤ 30000) (nr : Int32) : f_X1_judge_1 (nI t) (nI b.1) b.2.2.2 st nr = some (nI (buJ v t b).1, (buJ v t b).2.2.2, nrJ v t nr) := by
  rw [p_judge_1 hs hv hb ht]
  unfold buJ nrJ
  split
  · rfl
  · split <;> rfl
/-- the burrs behind a shot by burr b -/
def bs0 (v : Nat → Nat) (t b n : Nat) (b0 : Bu) : Bu := buC (if b = 0 then buJ v t b0 else b0) n
def bs1 (v : Nat → Nat) (t b n : Nat) (b1 : Bu) : Bu := buC (if b = 0 then b1 else buJ v t b1) n
theorem mostly_lt (b : Nat → Bool) (L : List (Nat × Nat)) : mostly b L < 2 := by
  unfold mostly
  split <;> omega
theorem mostly_I (b : Nat → Bool) (L : List (Nat × Nat)) : (if tot L < 2 * sumIf b L then (1 : Int32) else 0) = nI (mostly b L) := by
  unfold mostly
  split <;> rfl
def shotN (v : Nat → Nat) (ba : List (Nat × Nat)) (mk : Int32) (sec : Nat) : Sh := (mk, timeS v ba, nI (tot ba), nI (mostly isB ba), nI (mostly isK ba), nI sec, nI ba.length)
noncomputable def a_shot (v : Nat → Nat) (ba : List (Nat × Nat)) : Int32 := if tot ba = 0 then cNP else nI (timeS v ba)
theorem p_makeShot {ba : List (Nat × Nat)} {b0 b1 : Bu} {v : Nat → Nat} {K : List Sh} {sec : Nat} {uA uM st sF : Nat → Int32} {d0 w0 g0 i0 d1 w1 g1 i1 un ut se sk : Int32} (hba : rowR ba uA uM un ut) (h0 : buR b0 d0 w0 g0 i0) (h1 : buR b1 d1 w1 g1 i1) (hK : shR K sF sk) (hs : stR v st) (hse : se = nI sec) (k7 : okR ba) (k8 : tot ba ≤ 400) (k9 : buK b0) (k10 : buK b1) (k11 : stK v) (k12 : sec < 2 ^ 28) (sm br nr : Int32) :
    ∃ R, f_X1_makeShot d0 w0 i0 d1 w1 i1 uA uM un ut sF sk sm st se br nr = some R ∧ R.1 = a_shot v ba ∧ (0 ≤ R.1 → tot ba ≠ 0 ∧
      (R.2.1 = nI (bs0 v (timeS v ba) (mostly isB ba) (tmz sec (timeS v ba / 10)) b0).1 ∧ R.2.2.1 = nI (bs0 v (timeS v ba) (mostly isB ba) (tmz sec (timeS v ba / 10)) b0).2.1 ∧ R.2.2.2.1 = (bs0 v (timeS v ba) (mostly isB ba) (tmz sec (timeS v ba / 10)) b0).2.2.2) ∧
      (R.2.2.2.2.1 = nI (bs1 v (timeS v ba) (mostly isB ba) (tmz sec (timeS v ba / 10)) b1).1 ∧ R.2.2.2.2.2.1 = nI (bs1 v (timeS v ba) (mostly isB ba) (tmz sec (timeS v ba / 10)) b1).2.1 ∧ R.2.2.2.2.2.2.1 = (bs1 v (timeS v ba) (mostly isB ba) (tmz sec (timeS v ba / 10)) b1).2.2.2) ∧
      R.2.2.2.2.2.2.2.1 = 0 ∧ R.2.2.2.2.2.2.2.2.1 = 0 ∧
      shR ((shotN v ba sm sec :: K).take 12) R.2.2.2.2.2.2.2.2.2.1 R.2.2.2.2.2.2.2.2.2.2.1 ∧ R.2.2.2.2.2.2.2.2.2.2.2.1 = sm + 1 ∧
      R.2.2.2.2.2.2.2.2.2.2.2.2.1 = nI (sec + timeS v ba / 10) ∧ R.2.2.2.2.2.2.2.2.2.2.2.2.2.1 = br + nI (tot ba) ∧ R.2.2.2.2.2.2.2.2.2.2.2.2.2.2 = nrJ v (timeS v ba) nr) := by
  have hlen := len_tot k7
  have ht := timeS_le k11 ba
  unfold a_shot
  rw [f_X1_makeShot, p_time hs k11 hba k7 k8]
  simp only [Option.bind_some]
  by_cases h : tot ba = 0
  · rw [if_pos h, if_neg (by decide)]
    exact ⟨_, rfl, rfl, (by first | exact ngA | exact ngB | exact ngC | exact ngD)⟩
  · rw [if_neg h, if_pos (nI_pos' (by omega)), p_mostly (b := isB) (by decide) (by omega) (by omega) hba (fun p _ => hb_B), mostly_I]
    simp only [Option.bind_some]
    have eK : f_X5_isMostly 400 1 uA uM un ut = some (nI (mostly isK ba)) := by
      rw [p_mostly (b := isK) (by decide) (by omega) (by omega) hba (fun p _ => hb_K), mostly_I]
    obtain ⟨rfl, rfl, rfl, rfl⟩ := h0
    obtain ⟨rfl, rfl, rfl, rfl⟩ := h1
    subst hse
    have e10 : nI (timeS v ba) / 10 = nI (timeS v ba / 10) := by rw [fa_lit 10, pk_div (by omega) (by decide) (by decide)]
    obtain ⟨S, s1, s2, s3⟩ := p_addShot (t := timeS v ba) hK ht (nI (tot ba)) (nI (mostly isB ba)) (nI (mostly isK ba)) (nI sec) (nI ba.length) sm
    have hp := p_pass (se := sec) (n := timeS v ba / 10) (w0 := b0.2.1) (w1 := b1.2.1) (by omega) (by omega) k9.2.2 k10.2.2
    have hB := mostly_lt isB ba
    have hK2 := mostly_lt isK ba
    have key : ∀ z : Int32, z = nI (mostly isK ba) → ∃ R, f_X1_makeShot_J44 uA uM st (nI (timeS v ba)) (nI (mostly isB ba)) z (nI b0.1) (nI b0.2.1) b0.2.2.2 (nI b1.1) (nI b1.2.1) b1.2.2.2 un ut sF sk sm (nI sec) br nr = some R ∧ R.1 = nI (timeS v ba) ∧ (0 ≤ R.1 → tot ba ≠ 0 ∧
      (R.2.1 = nI (bs0 v (timeS v ba) (mostly isB ba) (tmz sec (timeS v ba / 10)) b0).1 ∧ R.2.2.1 = nI (bs0 v (timeS v ba) (mostly isB ba) (tmz sec (timeS v ba / 10)) b0).2.1 ∧ R.2.2.2.1 = (bs0 v (timeS v ba) (mostly isB ba) (tmz sec (timeS v ba / 10)) b0).2.2.2) ∧
      (R.2.2.2.2.1 = nI (bs1 v (timeS v ba) (mostly isB ba) (tmz sec (timeS v ba / 10)) b1).1 ∧ R.2.2.2.2.2.1 = nI (bs1 v (timeS v ba) (mostly isB ba) (tmz sec (timeS v ba / 10)) b1).2.1 ∧ R.2.2.2.2.2.2.1 = (bs1 v (timeS v ba) (mostly isB ba) (tmz sec (timeS v ba / 10)) b1).2.2.2) ∧
      R.2.2.2.2.2.2.2.1 = 0 ∧ R.2.2.2.2.2.2.2.2.1 = 0 ∧
      shR ((shotN v ba sm sec :: K).take 12) R.2.2.2.2.2.2.2.2.2.1 R.2.2.2.2.2.2.2.2.2.2.1 ∧ R.2.2.2.2.2.2.2.2.2.2.2.1 = sm + 1 ∧
      R.2.2.2.2.2.2.2.2.2.2.2.2.1 = nI (sec + timeS v ba / 10) ∧ R.2.2.2.2.2.2.2.2.2.2.2.2.2.1 = br + nI (tot ba) ∧ R.2.2.2.2.2.2.2.2.2.2.2.2.2.2 = nrJ v (timeS v ba) nr) := by
      intro z hz
      subst hz
      rw [f_X1_makeShot_J44, hba.1, hba.2.1, s1]
      simp only [Option.bind_some, lt_v, f_X5_clear]
      rw [e10, hp]
      rcases (show mostly isB ba = 0 ∨ mostly isB ba = 1 by omega) with q | q
      · rw [q, if_pos nI_0, p_judge0 hs k11 k9 ht]
        simp only [Option.bind_some]
        refine ⟨_, rfl, rfl, fun _ => ⟨h, ⟨?_, ?_, ?_⟩, ⟨?_, ?_, ?_⟩, rfl, rfl, ?_, s3, rfl, rfl, rfl⟩⟩
        · rfl
        · show nI (cl _ b0.2.1) = nI (cl _ (buJ v (timeS v ba) b0).2.1)
          rw [buJ_w]
        · rfl
        · rfl
        · rfl
        · rfl
        · unfold shotN
          rw [q] at s2 ⊢
          exact s2
      · rw [q, if_neg (nI_ne0 (by decide) (by decide)), p_judge1 hs k11 k10 ht]
        simp only [Option.bind_some]
        refine ⟨_, rfl, rfl, fun _ => ⟨h, ⟨?_, ?_, ?_⟩, ⟨?_, ?_, ?_⟩, rfl, rfl, ?_, s3, rfl, rfl, rfl⟩⟩
        · rfl
        · rfl
        · rfl
        · rfl
        · show nI (cl _ b1.2.1) = nI (cl _ (buJ v (timeS v ba) b1).2.1)
          rw [buJ_w]
        · rfl
        · unfold shotN
          rw [q] at s2 ⊢
          exact s2
    have keyJ : ∀ y : Int32, y = nI (mostly isB ba) → f_X1_makeShot_J27 uA uM st (nI (timeS v ba)) y (nI b0.1) (nI b0.2.1) b0.2.2.2 (nI b1.1) (nI b1.2.1) b1.2.2.2 un ut sF sk sm (nI sec) br nr = f_X1_makeShot_J44 uA uM st (nI (timeS v ba)) (nI (mostly isB ba)) (nI (mostly isK ba)) (nI b0.1) (nI b0.2.1) b0.2.2.2 (nI b1.1) (nI b1.2.1) b1.2.2.2 un ut sF sk sm (nI sec) br nr := by
      intro y hy
      subst hy
      rw [f_X1_makeShot_J27, eK]
      simp only [Option.bind_some]
      rcases (show mostly isK ba = 0 ∨ mostly isK ba = 1 by omega) with q | q
      · rw [q, if_pos nI_0]; rfl
      · rw [q, if_neg (nI_ne0 (by decide) (by decide))]; rfl
    obtain ⟨R, r1, r2, r3⟩ := key _ rfl
    refine ⟨R, ?_, r2, r3⟩
    rw [← r1]
    rcases (show mostly isB ba = 0 ∨ mostly isB ba = 1 by omega) with q | q
    · rw [if_pos (by rw [q]; exact nI_0)]
      exact keyJ 0 (by rw [q]; exact nI_0.symm)
    · rw [if_neg (by rw [q]; exact nI_ne0 (by decide) (by decide))]
      exact keyJ 1 (by rw [q]; rfl)
