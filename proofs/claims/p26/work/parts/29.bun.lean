/-! a grinder as a whole: its state, what the changes make of it -/
def GR (σ : Sp) (g : Gr) : Prop := rowR (v_lo σ) g.1 g.2.1 g.2.2.1 g.2.2.2.1 ∧ buR (v_b0 σ) g.2.2.2.2.1 g.2.2.2.2.2.1 g.2.2.2.2.2.2.1 g.2.2.2.2.2.2.2.1 ∧ buR (v_b1 σ) g.2.2.2.2.2.2.2.2.1 g.2.2.2.2.2.2.2.2.2.1 g.2.2.2.2.2.2.2.2.2.2.1 g.2.2.2.2.2.2.2.2.2.2.2.1 ∧ rowR (v_ch σ) g.2.2.2.2.2.2.2.2.2.2.2.2.1 g.2.2.2.2.2.2.2.2.2.2.2.2.2.1 g.2.2.2.2.2.2.2.2.2.2.2.2.2.2.1 g.2.2.2.2.2.2.2.2.2.2.2.2.2.2.2.1 ∧ rowR (v_ba σ) g.2.2.2.2.2.2.2.2.2.2.2.2.2.2.2.2.1 g.2.2.2.2.2.2.2.2.2.2.2.2.2.2.2.2.2.1 g.2.2.2.2.2.2.2.2.2.2.2.2.2.2.2.2.2.2.1 g.2.2.2.2.2.2.2.2.2.2.2.2.2.2.2.2.2.2.2.1 ∧ shR (v_K σ) g.2.2.2.2.2.2.2.2.2.2.2.2.2.2.2.2.2.2.2.2.1 g.2.2.2.2.2.2.2.2.2.2.2.2.2.2.2.2.2.2.2.2.2.1 ∧ g.2.2.2.2.2.2.2.2.2.2.2.2.2.2.2.2.2.2.2.2.2.2.1 = v_mk σ ∧ stR (v_st σ) g.2.2.2.2.2.2.2.2.2.2.2.2.2.2.2.2.2.2.2.2.2.2.2.1 ∧ g.2.2.2.2.2.2.2.2.2.2.2.2.2.2.2.2.2.2.2.2.2.2.2.2.1 = nI (v_se σ) ∧ g.2.2.2.2.2.2.2.2.2.2.2.2.2.2.2.2.2.2.2.2.2.2.2.2.2.1 = v_fi σ ∧ g.2.2.2.2.2.2.2.2.2.2.2.2.2.2.2.2.2.2.2.2.2.2.2.2.2.2.1 = v_gr σ ∧ g.2.2.2.2.2.2.2.2.2.2.2.2.2.2.2.2.2.2.2.2.2.2.2.2.2.2.2.1 = v_br σ ∧ g.2.2.2.2.2.2.2.2.2.2.2.2.2.2.2.2.2.2.2.2.2.2.2.2.2.2.2.2.1 = v_pu σ ∧ g.2.2.2.2.2.2.2.2.2.2.2.2.2.2.2.2.2.2.2.2.2.2.2.2.2.2.2.2.2 = v_nr σ
/-- what every state keeps; its second is at most B -/
def KK (σ : Sp) (B : Nat) : Prop := okR (v_lo σ) ∧ (∀ p ∈ v_lo σ, p.2 < 2) ∧ tot (v_lo σ) ≤ 4000 ∧ (v_lo σ).length ≤ 6 ∧ okR (v_ch σ) ∧ mkK (v_ch σ) ∧ tot (v_ch σ) ≤ 100 ∧ okR (v_ba σ) ∧ mkK (v_ba σ) ∧ tot (v_ba σ) ≤ 400 ∧ buK (v_b0 σ) ∧ buK (v_b1 σ) ∧ stK (v_st σ) ∧ v_se σ ≤ B
abbrev nx (x : Int32) : Nat := x.toNatClampNeg
def o_fill (k a : Nat) (σ : Sp) : Sp := (pour k a (v_lo σ), v_ch σ, v_ba σ, v_b0 σ, v_b1 σ, v_K σ, v_mk σ, v_st σ, v_se σ, v_fi σ + nI a, v_gr σ, v_br σ, v_pu σ, v_nr σ)
def o_grind (b a : Nat) (σ : Sp) : Sp := ((tk a (v_lo σ)).2, (tk (g_out (v_ch σ) a (v_st σ 2)) (g_in (v_lo σ) (v_ch σ) (bsel (v_b0 σ) (v_b1 σ) b).1 (bsel (v_b0 σ) (v_b1 σ) b).2.1 b a)).2, v_ba σ ++ (tk (g_out (v_ch σ) a (v_st σ 2)) (g_in (v_lo σ) (v_ch σ) (bsel (v_b0 σ) (v_b1 σ) b).1 (bsel (v_b0 σ) (v_b1 σ) b).2.1 b a)).1, bg0 (v_b0 σ) b a (tmz (v_se σ) ((a + 9) / 10)), bg1 (v_b1 σ) b a (tmz (v_se σ) ((a + 9) / 10)), v_K σ, v_mk σ, v_st σ, v_se σ + (a + 9) / 10, v_fi σ, v_gr σ + nI a, v_br σ, v_pu σ, v_nr σ)
def o_dial (b d : Nat) (σ : Sp) : Sp := (v_lo σ, v_ch σ, v_ba σ, (if b = 0 then (d, (v_b0 σ).2) else v_b0 σ), (if b = 0 then v_b1 σ else (d, (v_b1 σ).2)), v_K σ, v_mk σ, v_st σ, v_se σ, v_fi σ, v_gr σ, v_br σ, v_pu σ, v_nr σ)
def o_rest (n : Nat) (σ : Sp) : Sp := (v_lo σ, v_ch σ, v_ba σ, buC (v_b0 σ) (tmz (v_se σ) n), buC (v_b1 σ) (tmz (v_se σ) n), v_K σ, v_mk σ, v_st σ, v_se σ + n, v_fi σ, v_gr σ, v_br σ, v_pu σ, v_nr σ)
def o_shot (σ : Sp) : Sp := (v_lo σ, v_ch σ, [], bs0 (v_st σ) (timeS (v_st σ) (v_ba σ)) (mostly isB (v_ba σ)) (tmz (v_se σ) (timeS (v_st σ) (v_ba σ) / 10)) (v_b0 σ), bs1 (v_st σ) (timeS (v_st σ) (v_ba σ)) (mostly isB (v_ba σ)) (tmz (v_se σ) (timeS (v_st σ) (v_ba σ) / 10)) (v_b1 σ), (shotN (v_st σ) (v_ba σ) (v_mk σ) (v_se σ) :: v_K σ).take 12, v_mk σ + 1, v_st σ, v_se σ + timeS (v_st σ) (v_ba σ) / 10, v_fi σ, v_gr σ, v_br σ + nI (tot (v_ba σ)), v_pu σ, nrJ (v_st σ) (timeS (v_st σ) (v_ba σ)) (v_nr σ))
def o_purge (σ : Sp) : Sp := (v_lo σ, [], v_ba σ, v_b0 σ, v_b1 σ, v_K σ, v_mk σ, v_st σ, v_se σ, v_fi σ, v_gr σ, v_br σ, v_pu σ + nI (tot (v_ch σ)), v_nr σ)
def o_corr (b : Nat) (σ : Sp) : Sp := (v_lo σ, v_ch σ, v_ba σ, (if b = 0 then buX (v_b0 σ) (sk0 (v_K σ) 0).2.1 (v_st σ 0) else v_b0 σ), (if b = 0 then v_b1 σ else buX (v_b1 σ) (sk0 (v_K σ) 0).2.1 (v_st σ 0)), v_K σ, v_mk σ, v_st σ, v_se σ, v_fi σ, v_gr σ, v_br σ, v_pu σ, v_nr σ)
def updN (v : Nat → Nat) (i a : Nat) : Nat → Nat := fun k => if k = i then a else v k
def o_set (i a : Nat) (σ : Sp) : Sp := (v_lo σ, v_ch σ, v_ba σ, v_b0 σ, v_b1 σ, v_K σ, v_mk σ, updN (v_st σ) i a, v_se σ, v_fi σ, v_gr σ, v_br σ, v_pu σ, v_nr σ)
theorem b2_no {x1 x2 : Int32} {hi : Nat} (hh : hi < 2 ^ 31) (h : ¬ bad2 x1 x2 hi) : nx x1 < 2 ∧ 1 ≤ nx x2 ∧ nx x2 ≤ hi ∧ x1 = nI (nx x1) ∧ x2 = nI (nx x2) := by
  have h1 : x1 = 0 ∨ x1 = 1 := Classical.byContradiction (fun q => h (Or.inl q))
  have h2 : ¬ x2 < 1 := fun q => h (Or.inr (Or.inl q))
  have h3 : ¬ nI hi < x2 := fun q => h (Or.inr (Or.inr q))
  obtain ⟨k, hk, rfl⟩ := v01 h1
  obtain ⟨a, ha1, ha2, rfl⟩ := v_rng hh h2 h3
  show (nI k).toNatClampNeg < 2 ∧ 1 ≤ (nI a).toNatClampNeg ∧ (nI a).toNatClampNeg ≤ hi ∧ nI k = nI (nI k).toNatClampNeg ∧ nI a = nI (nI a).toNatClampNeg
  rw [v_cl (by omega), v_cl (by omega)]
  exact ⟨hk, ha1, ha2, rfl, rfl⟩
theorem afill_ok {x1 x2 : Int32} {L : List (Nat × Nat)} (h : 0 ≤ a_fill x1 x2 L) : ¬ bad2 x1 x2 999 ∧ ¬ full (nx x1) (nx x2) L ∧ a_fill x1 x2 L = nI (tot L + nx x2) := by
  unfold a_fill at h ⊢
  by_cases c1 : bad2 x1 x2 999
  · rw [if_pos c1] at h; exact absurd h (by decide)
  · rw [if_neg c1] at h ⊢
    by_cases c2 : full x1.toNatClampNeg x2.toNatClampNeg L
    · rw [if_pos c2] at h; exact absurd h (by decide)
    · rw [if_neg c2]; exact ⟨c1, c2, rfl⟩
theorem agrind_ok {x1 x2 : Int32} {lo ch ba : List (Nat × Nat)} {c : Nat} (h : 0 ≤ a_grind x1 x2 lo ch ba c) : ¬ bad2 x1 x2 400 ∧ nx x2 ≤ tot lo ∧ tot ba + g_out ch (nx x2) c ≤ 400 ∧ a_grind x1 x2 lo ch ba c = nI (g_out ch (nx x2) c) := by
  unfold a_grind at h ⊢
  by_cases c1 : bad2 x1 x2 400
  · rw [if_pos c1] at h; exact absurd h (by decide)
  · rw [if_neg c1] at h ⊢
    by_cases c2 : tot lo < x2.toNatClampNeg
    · rw [if_pos c2] at h; exact absurd h (by decide)
    · rw [if_neg c2] at h ⊢
      by_cases c3 : 400 < tot ba + g_out ch x2.toNatClampNeg c
      · rw [if_pos c3] at h; exact absurd h (by decide)
      · rw [if_neg c3]; exact ⟨c1, Nat.not_lt.mp c2, Nat.not_lt.mp c3, rfl⟩
theorem adial_ok {x1 x2 : Int32} {b0 b1 : Bu} (h : 0 ≤ a_dial x1 x2 b0 b1) : ¬ bad2 x1 x2 60 ∧ a_dial x1 x2 b0 b1 = nI (bsel b0 b1 (nx x1)).1 := by
  unfold a_dial at h ⊢
  by_cases c1 : bad2 x1 x2 60
  · rw [if_pos c1] at h; exact absurd h (by decide)
  · rw [if_neg c1]; exact ⟨c1, rfl⟩
theorem arest_ok {x1 : Int32} {w0 w1 sec : Nat} (h : 0 ≤ a_rest x1 w0 w1 sec) : 1 ≤ nx x1 ∧ nx x1 ≤ 999 ∧ x1 = nI (nx x1) ∧ a_rest x1 w0 w1 sec = nI (w0 + w1 - cl (tmz sec (nx x1)) w0 - cl (tmz sec (nx x1)) w1) := by
  unfold a_rest at h ⊢
  by_cases c1 : x1 < 1 ∨ nI 999 < x1
  · rw [if_pos c1] at h; exact absurd h (by decide)
  · rw [if_neg c1]
    obtain ⟨a, ha1, ha2, rfl⟩ := v_rng (by decide) (fun q => c1 (Or.inl q)) (fun q => c1 (Or.inr q))
    have e : (nI a).toNatClampNeg = a := v_cl (by omega)
    show 1 ≤ (nI a).toNatClampNeg ∧ (nI a).toNatClampNeg ≤ 999 ∧ nI a = nI (nI a).toNatClampNeg ∧ _ = nI (w0 + w1 - cl (tmz sec (nI a).toNatClampNeg) w0 - cl (tmz sec (nI a).toNatClampNeg) w1)
    rw [e]
    exact ⟨ha1, ha2, rfl, rfl⟩
theorem G_fillIn {σ : Sp} {g : Gr} {B : Nat} (h : GR σ g) (hk : KK σ B) (x1 x2 : Int32) : ∃ R, F_X1_fillIn x1 x2 g = some R ∧ R.1 = a_fill x1 x2 (v_lo σ) ∧ (0 ≤ R.1 → GR (o_fill (nx x1) (nx x2) σ) R.2) := by
  obtain ⟨hlo, hb0, hb1, hch, hba, hK, hmk, hst, hse, hfi, hgr, hbr, hpu, hnr⟩ := h
  obtain ⟨k1, k2, k3, k4, k5, k6, k7, k8, k9, k10, k11, k12, k13, k14⟩ := hk
  obtain ⟨R, h1, h2, h3⟩ := p_fillIn hlo k1 k3 k4 x1 x2 (g.2.2.2.2.2.2.2.2.2.2.2.2.2.2.2.2.2.2.2.2.2.2.2.2.2.1)
  rw [F_X1_fillIn, h1]
  simp only [Option.bind_some]
  refine ⟨_, rfl, h2, fun q => ?_⟩
  obtain ⟨a, b⟩ := h3 q
  have e := (b2_no (by decide) (afill_ok (h2 ▸ q)).1).2.2.2.2
  exact ⟨a, hb0, hb1, hch, hba, hK, hmk, hst, hse, (by show R.2.2.2.2.2 = v_fi σ + nI (nx x2); rw [b, hfi, ← e]), hgr, hbr, hpu, hnr⟩
theorem G_grindBy {σ : Sp} {g : Gr} {B : Nat} (h : GR σ g) (hk : KK σ B) (hB : B < 2 ^ 28) (x1 x2 : Int32) : ∃ R, F_X1_grindBy x1 x2 g = some R ∧ R.1 = a_grind x1 x2 (v_lo σ) (v_ch σ) (v_ba σ) (v_st σ 2) ∧ (0 ≤ R.1 → GR (o_grind (nx x1) (nx x2) σ) R.2) := by
  obtain ⟨hlo, hb0, hb1, hch, hba, hK, hmk, hst, hse, hfi, hgr, hbr, hpu, hnr⟩ := h
  obtain ⟨k1, k2, k3, k4, k5, k6, k7, k8, k9, k10, k11, k12, k13, k14⟩ := hk
  obtain ⟨R, h1, h2, h3⟩ := p_grindBy (gr := g.2.2.2.2.2.2.2.2.2.2.2.2.2.2.2.2.2.2.2.2.2.2.2.2.2.2.1) hlo hch hba hb0 hb1 hst hse k1 k2 k3 k4 k5 k7 k8 k10 k11 k12 k13 (by omega) x1 x2
  rw [F_X1_grindBy, h1]
  simp only [Option.bind_some]
  refine ⟨_, rfl, h2, fun q => ?_⟩
  obtain ⟨e1, e2, e3, e4, e5⟩ := b2_no (by decide) (agrind_ok (h2 ▸ q)).1
  obtain ⟨a1, ⟨a2, a3⟩, ⟨a4, a5⟩, a6, a7, a8, a9⟩ := h3 q (nx x1) (nx x2) e1 e4 e5 (by omega)
  refine ⟨a1, ⟨?_, a2, a3, ?_⟩, ⟨?_, a4, a5, ?_⟩, a6, a7, hK, hmk, hst, a8, hfi, ?_, hbr, hpu, hnr⟩
  · show _ = nI (bg0 (v_b0 σ) (nx x1) (nx x2) _).1
    unfold bg0 buC buG
    split <;> exact hb0.1
  · show _ = (bg0 (v_b0 σ) (nx x1) (nx x2) _).2.2.2
    unfold bg0 buC buG
    split <;> exact hb0.2.2.2
  · show _ = nI (bg1 (v_b1 σ) (nx x1) (nx x2) _).1
    unfold bg1 buC buG
    split <;> exact hb1.1
  · show _ = (bg1 (v_b1 σ) (nx x1) (nx x2) _).2.2.2
    unfold bg1 buC buG
    split <;> exact hb1.2.2.2
  · exact a9.trans (by rw [hgr]; rfl)
theorem G_turnDial {σ : Sp} {g : Gr} {B : Nat} (h : GR σ g) (hk : KK σ B) (x1 x2 : Int32) : ∃ R, F_X1_turnDial x1 x2 g = some R ∧ R.1 = a_dial x1 x2 (v_b0 σ) (v_b1 σ) ∧ (0 ≤ R.1 → GR (o_dial (nx x1) (nx x2) σ) R.2) := by
  obtain ⟨hlo, hb0, hb1, hch, hba, hK, hmk, hst, hse, hfi, hgr, hbr, hpu, hnr⟩ := h
  obtain ⟨k1, k2, k3, k4, k5, k6, k7, k8, k9, k10, k11, k12, k13, k14⟩ := hk
  obtain ⟨R, h1, h2, h3⟩ := p_turnDial k11 k12 x1 x2
  rw [F_X1_turnDial, hb0.1, hb1.1, h1]
  simp only [Option.bind_some]
  refine ⟨_, rfl, h2, fun q => ?_⟩
  obtain ⟨e1, e2, e3, e4, e5⟩ := b2_no (by decide) (adial_ok (h2 ▸ q)).1
  obtain ⟨a1, a2⟩ := h3 q (nx x1) (nx x2) e1 e4 e5 (by omega)
  refine ⟨hlo, ⟨?_, ?_, ?_, ?_⟩, ⟨?_, ?_, ?_, ?_⟩, hch, hba, hK, hmk, hst, hse, hfi, hgr, hbr, hpu, hnr⟩
  · refine a1.trans (congrArg nI ?_)
    show _ = (if nx x1 = 0 then (nx x2, (v_b0 σ).2) else v_b0 σ).1
    split <;> rfl
  · refine hb0.2.1.trans (congrArg nI ?_)
    show _ = (if nx x1 = 0 then (nx x2, (v_b0 σ).2) else v_b0 σ).2.1
    split <;> rfl
  · refine hb0.2.2.1.trans ?_
    show _ = (if nx x1 = 0 then (nx x2, (v_b0 σ).2) else v_b0 σ).2.2.1
    split <;> rfl
  · refine hb0.2.2.2.trans ?_
    show _ = (if nx x1 = 0 then (nx x2, (v_b0 σ).2) else v_b0 σ).2.2.2
    split <;> rfl
  · refine a2.trans (congrArg nI ?_)
    show _ = (if nx x1 = 0 then v_b1 σ else (nx x2, (v_b1 σ).2)).1
    split <;> rfl
  · refine hb1.2.1.trans (congrArg nI ?_)
    show _ = (if nx x1 = 0 then v_b1 σ else (nx x2, (v_b1 σ).2)).2.1
    split <;> rfl
  · refine hb1.2.2.1.trans ?_
    show _ = (if nx x1 = 0 then v_b1 σ else (nx x2, (v_b1 σ).2)).2.2.1
    split <;> rfl
  · refine hb1.2.2.2.trans ?_
    show _ = (if nx x1 = 0 then v_b1 σ else (nx x2, (v_b1 σ).2)).2.2.2
    split <;> rfl
theorem G_letPass {σ : Sp} {g : Gr} {B : Nat} (h : GR σ g) (hk : KK σ B) (hB : B < 2 ^ 28) (x1 : Int32) : ∃ R, F_X1_letPass x1 g = some R ∧ R.1 = a_rest x1 (v_b0 σ).2.1 (v_b1 σ).2.1 (v_se σ) ∧ (0 ≤ R.1 → GR (o_rest (nx x1) σ) R.2) := by
  obtain ⟨hlo, hb0, hb1, hch, hba, hK, hmk, hst, hse, hfi, hgr, hbr, hpu, hnr⟩ := h
  obtain ⟨k1, k2, k3, k4, k5, k6, k7, k8, k9, k10, k11, k12, k13, k14⟩ := hk
  obtain ⟨R, h1, h2, h3⟩ := p_letPass k11.2.2 k12.2.2 (show v_se σ < 2 ^ 28 by omega) x1
  rw [F_X1_letPass, hb0.2.1, hb1.2.1, hse, h1]
  simp only [Option.bind_some]
  refine ⟨_, rfl, h2, fun q => ?_⟩
  obtain ⟨e1, e2, e3, e4⟩ := arest_ok (h2 ▸ q)
  obtain ⟨a1, a2, a3⟩ := h3 q (nx x1) e3 (by omega)
  exact ⟨hlo, ⟨hb0.1, a1, hb0.2.2.1, hb0.2.2.2⟩, ⟨hb1.1, a2, hb1.2.2.1, hb1.2.2.2⟩, hch, hba, hK, hmk, hst, a3, hfi, hgr, hbr, hpu, hnr⟩
theorem G_makeShot {σ : Sp} {g : Gr} {B : Nat} (h : GR σ g) (hk : KK σ B) (hB : B < 2 ^ 28) : ∃ R, F_X1_makeShot g = some R ∧ R.1 = a_shot (v_st σ) (v_ba σ) ∧ (0 ≤ R.1 → tot (v_ba σ) ≠ 0 ∧ GR (o_shot σ) R.2) := by
  obtain ⟨hlo, hb0, hb1, hch, hba, hK, hmk, hst, hse, hfi, hgr, hbr, hpu, hnr⟩ := h
  obtain ⟨k1, k2, k3, k4, k5, k6, k7, k8, k9, k10, k11, k12, k13, k14⟩ := hk
  obtain ⟨R, h1, h2, h3⟩ := p_makeShot hba hb0 hb1 hK hst hse k8 k10 k11 k12 k13 (by omega) (g.2.2.2.2.2.2.2.2.2.2.2.2.2.2.2.2.2.2.2.2.2.2.1) (g.2.2.2.2.2.2.2.2.2.2.2.2.2.2.2.2.2.2.2.2.2.2.2.2.2.2.2.1) (g.2.2.2.2.2.2.2.2.2.2.2.2.2.2.2.2.2.2.2.2.2.2.2.2.2.2.2.2.2)
  rw [F_X1_makeShot, h1]
  simp only [Option.bind_some]
  refine ⟨_, rfl, h2, fun q => ?_⟩
  obtain ⟨a0, ⟨a1, a2, a3⟩, ⟨a4, a5, a6⟩, a7, a8, a9, a10, a11, a12, a13⟩ := h3 q
  rw [hmk] at a9
  refine ⟨a0, hlo, ⟨a1, a2, ?_, a3⟩, ⟨a4, a5, ?_, a6⟩, hch, ⟨a7, a8, fun k z => absurd z (Nat.not_lt_zero k)⟩, a9, ?_, hst, a11, hfi, hgr, ?_, hpu, ?_⟩
  · show _ = (bs0 (v_st σ) (timeS (v_st σ) (v_ba σ)) _ _ (v_b0 σ)).2.2.1
    unfold bs0 buC
    split
    · exact hb0.2.2.1.trans (buJ_g _ _ _).symm
    · exact hb0.2.2.1
  · show _ = (bs1 (v_st σ) (timeS (v_st σ) (v_ba σ)) _ _ (v_b1 σ)).2.2.1
    unfold bs1 buC
    split
    · exact hb1.2.2.1
    · exact hb1.2.2.1.trans (buJ_g _ _ _).symm
  · exact a10.trans (by rw [hmk]; rfl)
  · exact a12.trans (by rw [hbr]; rfl)
  · exact a13.trans (by rw [hnr]; rfl)
theorem G_emptyChute {σ : Sp} {g : Gr} (h : GR σ g) : ∃ R, F_X1_emptyChute g = some R ∧ R.1 = nI (tot (v_ch σ)) ∧ GR (o_purge σ) R.2 := by
  obtain ⟨hlo, hb0, hb1, hch, hba, hK, hmk, hst, hse, hfi, hgr, hbr, hpu, hnr⟩ := h
  rw [F_X1_emptyChute, hch.2.1, p_emptyChute]
  simp only [Option.bind_some]
  exact ⟨_, rfl, rfl, hlo, hb0, hb1, rowR_nil _ _, hba, hK, hmk, hst, hse, hfi, hgr, hbr, (by show _ + nI (tot (v_ch σ)) = _; rw [hpu]; rfl), hnr⟩
noncomputable def a_corr (x1 : Int32) (K : List Sh) (b0 b1 : Bu) (g : Nat) : Int32 := by
  classical
  exact if ¬ (x1 = 0 ∨ x1 = 1) then cIA else if K.length = 0 then cNP else nI (cor (bsel b0 b1 (nx x1)).1 (sk0 K 0).2.1 g)
theorem G_correct {σ : Sp} {g : Gr} {B : Nat} (h : GR σ g) (hk : KK σ B) (x1 : Int32) : ∃ R, F_X1_correctByLatest x1 g = some R ∧ R.1 = a_corr x1 (v_K σ) (v_b0 σ) (v_b1 σ) (v_st σ 0) ∧ (0 ≤ R.1 → nx x1 < 2 ∧ GR (o_corr (nx x1) σ) R.2) := by
  obtain ⟨hlo, hb0, hb1, hch, hba, hK, hmk, hst, hse, hfi, hgr, hbr, hpu, hnr⟩ := h
  obtain ⟨k1, k2, k3, k4, k5, k6, k7, k8, k9, k10, k11, k12, k13, k14⟩ := hk
  unfold a_corr
  rw [F_X1_correctByLatest, f_X1_correctByLatest]
  by_cases c1 : x1 = 0 ∨ x1 = 1
  · obtain ⟨b, hb, rfl⟩ := v01 c1
    rw [is01_t hb, if_neg (not_not_intro c1)]
    simp only [Option.bind_some]
    rw [if_neg (by decide)]
    have h12 := hK.2.1
    by_cases c2 : (v_K σ).length = 0
    · rw [if_neg (by rw [hK.1, fa_L]; exact nI_ge (by omega) (by decide)), if_pos c2]
      simp only [Option.bind_some]
      exact ⟨_, rfl, rfl, (by first | exact ngA | exact ngB | exact ngC | exact ngD)⟩
    · have hl := (hK.2.2.2 0 (by omega)).2.1
      have ht := hK.2.2.1 0 (by omega)
      have e0 : g.2.2.2.2.2.2.2.2.2.2.2.2.2.2.2.2.2.2.2.2.2.2.2.1 (0 : Int32).toNatClampNeg = nI (v_st σ 0) := hst 0 (by decide)
      have e1 : g.2.2.2.2.2.2.2.2.2.2.2.2.2.2.2.2.2.2.2.2.1 (1 : Int32).toNatClampNeg = nI (sk0 (v_K σ) 0).2.1 := hl
      rw [if_pos (by rw [hK.1, fa_L]; exact nI_le (by omega) (by omega)), if_neg c2, f_X6_latestTime, e0, e1, show nx (nI b) = b from v_cl (by omega)]
      obtain ⟨s1, s2, s3⟩ := k13
      obtain ⟨d0, d1, d2, d3⟩ := hb0
      obtain ⟨z0, z1, z2, z3⟩ := hb1
      rcases (show b = 0 ∨ b = 1 by omega) with rfl | rfl
      · rw [if_pos nI_0, d0]
        simp only [Option.bind_some]
        rw [p_correct k11.2.1 ht s1 s2]
        simp only [Option.bind_some]
        exact ⟨_, rfl, rfl, fun _ => ⟨by decide, hlo, ⟨rfl, d1, d2, (by rw [d3]; rfl)⟩, ⟨z0, z1, z2, z3⟩, hch, hba, hK, hmk, hst, hse, hfi, hgr, hbr, hpu, hnr⟩⟩
      · rw [if_neg (by decide), z0]
        simp only [Option.bind_some]
        rw [p_correct k12.2.1 ht s1 s2]
        simp only [Option.bind_some]
        exact ⟨_, rfl, rfl, fun _ => ⟨by decide, hlo, ⟨d0, d1, d2, d3⟩, ⟨rfl, z1, z2, (by rw [z3]; rfl)⟩, hch, hba, hK, hmk, hst, hse, hfi, hgr, hbr, hpu, hnr⟩⟩
  · rw [is01_f c1, if_pos c1]
    simp only [Option.bind_some]
    rw [if_pos trivial]
    simp only [Option.bind_some]
    exact ⟨_, rfl, rfl, (by first | exact ngA | exact ngB | exact ngC | exact ngD)⟩
