/-! the state of a grinder, and its methods -/
abbrev Bu : Type := Nat × Nat × Int32 × Int32
abbrev Sp : Type := List (Nat × Nat) × List (Nat × Nat) × List (Nat × Nat) × Bu × Bu × List Sh × Int32 × (Nat → Nat) × Nat × Int32 × Int32 × Int32 × Int32 × Int32
abbrev v_lo (σ : Sp) : List (Nat × Nat) := σ.1
abbrev v_ch (σ : Sp) : List (Nat × Nat) := σ.2.1
abbrev v_ba (σ : Sp) : List (Nat × Nat) := σ.2.2.1
abbrev v_b0 (σ : Sp) : Bu := σ.2.2.2.1
abbrev v_b1 (σ : Sp) : Bu := σ.2.2.2.2.1
abbrev v_K (σ : Sp) : List Sh := σ.2.2.2.2.2.1
abbrev v_mk (σ : Sp) : Int32 := σ.2.2.2.2.2.2.1
abbrev v_st (σ : Sp) : Nat → Nat := σ.2.2.2.2.2.2.2.1
abbrev v_se (σ : Sp) : Nat := σ.2.2.2.2.2.2.2.2.1
abbrev v_fi (σ : Sp) : Int32 := σ.2.2.2.2.2.2.2.2.2.1
abbrev v_gr (σ : Sp) : Int32 := σ.2.2.2.2.2.2.2.2.2.2.1
abbrev v_br (σ : Sp) : Int32 := σ.2.2.2.2.2.2.2.2.2.2.2.1
abbrev v_pu (σ : Sp) : Int32 := σ.2.2.2.2.2.2.2.2.2.2.2.2.1
abbrev v_nr (σ : Sp) : Int32 := σ.2.2.2.2.2.2.2.2.2.2.2.2.2
def buR (b : Bu) (d w g k : Int32) : Prop := d = nI b.1 ∧ w = nI b.2.1 ∧ g = b.2.2.1 ∧ k = b.2.2.2
def stR (v : Nat → Nat) (st : Nat → Int32) : Prop := ∀ k : Nat, k < 6 → st k = nI (v k)
def buK (b : Bu) : Prop := 1 ≤ b.1 ∧ b.1 ≤ 60 ∧ b.2.1 ≤ 300
def mkK (L : List (Nat × Nat)) : Prop := ∀ p ∈ L, 40 ≤ p.2 ∧ p.2 < 2404
def stK (v : Nat → Nat) : Prop := 100 ≤ v 0 ∧ v 0 ≤ 600 ∧ v 1 ≤ 200 ∧ v 2 ≤ 100 ∧ 30 ≤ v 3 ∧ v 3 ≤ 300 ∧ 30 ≤ v 4 ∧ v 4 ≤ 300 ∧ v 5 ≤ 1
def hdn (v : Nat → Nat) (k : Nat) : Nat := if k = 0 then v 3 else v 4
def flm (v : Nat → Nat) (m : Nat) : Nat := fw (hdn v (m % 2)) (m / 4)
def sumF (v : Nat → Nat) : List (Nat × Nat) → Nat
  | [] => 0
  | p :: L => p.1 * flm v p.2 + sumF v L
def timeS (v : Nat → Nat) (L : List (Nat × Nat)) : Nat := sumF v L / tot L
theorem fw_le {h g : Nat} (hh : h ≤ 300) : fw h g ≤ 30000 := by
  unfold fw
  split
  · omega
  · have h1 : h * 1000 / g ≤ h * 1000 / 10 := Nat.div_le_div_left (by omega) (by decide)
    omega
theorem hdn_le {v : Nat → Nat} (hv : stK v) (k : Nat) : hdn v k ≤ 300 := by
  obtain ⟨-, -, -, -, -, h3, -, h4, -⟩ := hv
  unfold hdn
  split <;> omega
theorem flm_le {v : Nat → Nat} (hv : stK v) (m : Nat) : flm v m ≤ 30000 := fw_le (hdn_le hv _)
theorem sumF_le {v : Nat → Nat} (hv : stK v) : ∀ L, sumF v L ≤ tot L * 30000
  | [] => by simp [sumF, tot]
  | p :: L => by
    have h1 := sumF_le hv L
    have h2 : p.1 * flm v p.2 ≤ p.1 * 30000 := Nat.mul_le_mul (Nat.le_refl _) (flm_le hv _)
    simp only [sumF, tot]
    rw [Nat.add_mul]
    omega
theorem timeS_le {v : Nat → Nat} (hv : stK v) (L : List (Nat × Nat)) : timeS v L ≤ 30000 := by
  unfold timeS
  rcases Nat.eq_zero_or_pos (tot L) with h | h
  · rw [h, Nat.div_zero]; omega
  · have h1 := sumF_le hv L
    have : sumF v L / tot L ≤ tot L * 30000 / tot L := Nat.div_le_div_right h1
    rw [Nat.mul_div_cancel_left _ h] at this
    exact this
theorem p_hard {v : Nat → Nat} {st : Nat → Int32} (hs : stR v st) {k : Nat} (hk : k < 2 ^ 31) : f_X1_hardnessOf (nI k) st = some (nI (hdn v k)) := by
  rw [f_X1_hardnessOf]
  unfold hdn
  by_cases h : k = 0
  · subst h
    rw [if_pos nI_0, if_pos rfl]
    exact congrArg some (hs 3 (by decide))
  · rw [if_neg (nI_ne0 (by omega) hk), if_neg h]
    exact congrArg some (hs 4 (by decide))
theorem p_flowOfMark {v : Nat → Nat} {st : Nat → Int32} (hs : stR v st) (hv : stK v) {m : Nat} (hm : m < 2 ^ 30) : f_X1_flowOfMark (nI m) st = some (nI (flm v m)) := by
  have h1 : m % 2 < 2 ^ 31 := Nat.lt_of_lt_of_le (Nat.mod_lt m (by decide)) (by decide)
  have h2 : m < 2 ^ 31 := Nat.lt_of_lt_of_le hm (by decide)
  have h3 : m / 4 < 2 ^ 30 := Nat.lt_of_le_of_lt (Nat.div_le_self m 4) hm
  have e1 := p_hard hs h1
  have e2 := p_gapOf h2
  have e3 := p_flow (hdn_le hv (m % 2)) h3
  rw [f_X1_flowOfMark, p_kindOf, Option.bind_some, e1, Option.bind_some, e2, Option.bind_some, e3, Option.bind_some, flm]
theorem p_time_L {v : Nat → Nat} {st : Nat → Int32} (hs : stR v st) (hv : stK v) {L : List (Nat × Nat)} {A M : Nat → Int32} {n t : Int32} (hr : rowR L A M n t) (hok : okR L) (hT : tot L ≤ 400) (h0 : 0 < tot L) : ∀ (m i s fuel : Nat) (Lr : List (Nat × Nat)), Lr.length = m → i + m = L.length → (∀ k : Nat, k < m → lk Lr k = lk L (i + k)) → m < fuel → s + sumF v Lr ≤ 400 * 30000 →
    f_X1_timeOfBasket_L18 A M n t st fuel (nI s) (nI i) = some (nI ((s + sumF v Lr) / tot L)) := by
  have hlen := len_tot hok
  intro m
  induction m with
  | zero =>
    intro i s fuel Lr hL hi hk hf hb
    obtain ⟨fu, rfl⟩ : ∃ fu, fuel = fu + 1 := ⟨fuel - 1, by omega⟩
    have hL0 : Lr = [] := List.length_eq_zero_iff.mp hL
    subst hL0
    rw [f_X1_timeOfBasket_L18, hr.1, hr.2.1, if_pos (nI_le (by omega) (by omega)), gd_t (nI_ne0 h0 (by omega))]
    simp only [sumF] at hb ⊢
    rw [pk_div (by omega) h0 (by omega), Nat.add_zero]
  | succ m ih =>
    intro i s fuel Lr hL hi hk hf hb
    obtain ⟨fu, rfl⟩ : ∃ fu, fuel = fu + 1 := ⟨fuel - 1, by omega⟩
    match Lr, hL with
    | p :: Lr, hL =>
      simp only [List.length_cons] at hL
      have h1 := hk 0 (by omega)
      rw [lk_0, Nat.add_zero] at h1
      have hp := hok (lk L i) (lk_m (by omega))
      have ih' := ih (i + 1) (s + p.1 * flm v p.2) fu Lr (by omega) (by omega) (fun k h => by
        have := hk (k + 1) (by omega)
        rw [lk_s] at this
        rw [this, show i + (k + 1) = i + 1 + k by omega]) (by omega) (by simp only [sumF] at hb; omega)
      rw [f_X1_timeOfBasket_L18, if_neg (by rw [hr.1]; exact nI_ge (by omega) (by omega)), p_amountAt hr (by omega) (by decide) (by omega)]
      simp only [Option.bind_some]
      rw [p_markAt hr (by omega) (by decide) (by omega)]
      simp only [Option.bind_some]
      rw [p_flowOfMark hs hv (by omega)]
      simp only [Option.bind_some, lt_v]
      rw [← h1, pk_mul, nI_add, fa_L, nI_add, ih']
      simp only [sumF, Nat.add_assoc]
theorem p_time {v : Nat → Nat} {st : Nat → Int32} (hs : stR v st) (hv : stK v) {L : List (Nat × Nat)} {A M : Nat → Int32} {n t : Int32} (hr : rowR L A M n t) (hok : okR L) (hT : tot L ≤ 400) : f_X1_timeOfBasket A M n t st = some (if tot L = 0 then -1000002 else nI (timeS v L)) := by
  have hlen := len_tot hok
  rw [f_X1_timeOfBasket]
  by_cases h : tot L = 0
  · rw [if_neg (by rw [hr.2.1, h]; exact nI_ge (a := 0) (b := 1) (by decide) (by decide)), if_pos h]
  · rw [if_pos (by rw [hr.2.1, fa_L]; exact nI_le (by omega) (by omega)), if_neg h, ← nI_0]
    have := p_time_L hs hv hr hok hT (by omega) L.length 0 0 FU L rfl (by omega) (fun k _ => by rw [Nat.zero_add]) (by show _ < 20000; omega) (by
      have := sumF_le hv L
      omega)
    rw [Nat.zero_add] at this
    exact this
/-- times of cooling while n seconds pass -/
def tmz (se n : Nat) : Nat := (se + n) / 10 - se / 10
theorem p_pass {se n w0 w1 : Nat} (hse : se < 2 ^ 29) (hn : n < 2 ^ 29) (h0 : w0 ≤ 300) (h1 : w1 ≤ 300) : f_X1_passSeconds (nI n) (nI w0) (nI w1) (nI se) = some (nI (cl (tmz se n) w0), nI (cl (tmz se n) w1), nI (se + n)) := by
  have e : se / 10 ≤ (se + n) / 10 := Nat.div_le_div_right (by omega)
  rw [f_X1_passSeconds]
  rw [nI_add, fa_L, pk_div (by omega) (by decide) (by decide), pk_div (by omega) (by decide) (by decide), pk_sub e, lt_v]
  have ht : (se + n) / 10 - se / 10 < 2 ^ 30 := by omega
  rw [p_cool ht h0]
  simp only [Option.bind_some]
  rw [p_cool ht h1]
  rfl
theorem cl_le : ∀ (n w : Nat), cl n w ≤ w
  | 0, w => Nat.le_refl w
  | n + 1, w => Nat.le_trans (cl_le n (w - fl w)) (Nat.sub_le _ _)
