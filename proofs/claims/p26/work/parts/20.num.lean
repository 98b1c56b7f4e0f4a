/-! numbers: what the leaves answer -/
theorem fa_lit (n : Nat) : (OfNat.ofNat n : Int32) = nI n := rfl
theorem fa_L {n : Nat} : (OfNat.ofNat n : Int32) = nI (OfNat.ofNat n) := rfl
theorem fa_and (a b : Nat) : nI a &&& nI b = nI (a &&& b) := by
  apply Int32.toBitVec_inj.1
  show BitVec.ofNat 32 a &&& BitVec.ofNat 32 b = BitVec.ofNat 32 (a &&& b)
  apply BitVec.eq_of_getLsbD_eq
  intro i hi
  simp [hi]
theorem fa_or (a b : Nat) : nI a ||| nI b = nI (a ||| b) := by
  apply Int32.toBitVec_inj.1
  show BitVec.ofNat 32 a ||| BitVec.ofNat 32 b = BitVec.ofNat 32 (a ||| b)
  apply BitVec.eq_of_getLsbD_eq
  intro i hi
  simp [hi]
theorem fa_mask (n k : Nat) : nI n &&& nI (2 ^ k - 1) = nI (n % 2 ^ k) := by rw [fa_and, Nat.and_two_pow_sub_one_eq_mod]
theorem fa_or_sum {a k : Nat} (b : Nat) (h : a < 2 ^ k) : nI (2 ^ k * b) ||| nI a = nI (2 ^ k * b + a) := by rw [fa_or, Nat.two_pow_add_eq_or_of_lt h]
theorem nI_inj {a b : Nat} (h : a = b) : nI a = nI b := congrArg nI h
theorem so_inj {α : Type} {a b : α} (h : a = b) : some a = some b := congrArg some h
/-- how much the warmth falls -/
def fl (w : Nat) : Nat := if w = 0 then 0 else if w < 16 then 1 else w / 16
/-- a flow -/
def fw (h g : Nat) : Nat := if g < 10 then 0 else h * 1000 / g
/-- a gap -/
def gp (d w : Nat) : Nat := max 10 (10 * d - w / 5)
/-- cooled n times -/
def cl : Nat → Nat → Nat
  | 0, w => w
  | n + 1, w => cl n (w - fl w)
/-- how many coolings until t at most -/
def ct : Nat → Nat → Nat → Nat
  | 0, _, _ => 0
  | n + 1, w, t => if t < w then 1 + ct n (w - fl w) t else 0
/-- a corrected dial -/
def cor (d t g : Nat) : Nat := max 1 (min 60 ((d * t + g / 2) / g))
theorem fl_le (w : Nat) : fl w ≤ w := by unfold fl; split; omega; split <;> omega
theorem fl_pos {w : Nat} (h : 0 < w) : 1 ≤ fl w := by
  unfold fl
  rw [if_neg (by omega)]
  split <;> omega
theorem p_is01 (x : Int32) : f_X7_isZeroOrOne x = some (if x = 0 ∨ x = 1 then 1 else 0) := by
  rw [f_X7_isZeroOrOne, f_X7_isZeroOrOne_J9]
  by_cases h0 : x = 0
  · simp [h0]
  · by_cases h1 : x = 1 <;> simp [h0, h1]
theorem p_fall {w : Nat} (h : w < 2 ^ 31) : f_X7_fallOf (nI w) = some (nI (fl w)) := by
  rw [f_X7_fallOf]
  simp (disch := omega) only [fa_lit, nI_leI, pk_div, lt_v]
  unfold fl
  by_cases h0 : w = 0
  · simp [h0, nI_0]
  · by_cases h1 : w < 16
    · rw [if_pos (by omega), if_neg (by omega), if_neg h0, if_pos h1]
    · rw [if_pos (by omega), if_pos (by omega), if_neg h0, if_neg h1]
theorem p_flow {h g : Nat} (hh : h ≤ 300) (hg : g < 2 ^ 30) : f_X7_flowOf (nI h) (nI g) = some (nI (fw h g)) := by
  rw [f_X7_flowOf]
  unfold fw
  by_cases h1 : g < 10
  · simp (disch := omega) only [fa_lit, nI_leI]
    rw [if_neg (by omega), if_pos h1]
  · simp (disch := omega) only [fa_lit, nI_leI, nI_eq, pk_mul, pk_div]
    rw [if_pos (by omega), gd_t (by omega), if_neg h1]
theorem p_mark {k b g : Nat} (hk : k < 2) (hb : b < 2) (hg : g < 2 ^ 20) : f_X7_markOf (nI k) (nI b) (nI g) = some (nI (4 * g + 2 * b + k)) := by
  have hs : nI g <<< ((2 : Int32) &&& 31) = nI (g * 2 ^ 2) := pk_shlN _ 2 (by decide) (by omega)
  have o1 : ∀ a, a < 4 → nI (g * 2 ^ 2) ||| nI a = nI (4 * g + a) := fun a ha => by
    rw [Nat.mul_comm]
    exact fa_or_sum (k := 2) g ha
  have o2 : nI (4 * g + 2) ||| nI 1 = nI (4 * g + 3) := by
    have := fa_or_sum (k := 1) (2 * g + 1) (a := 1) (by decide)
    rw [show 2 ^ 1 * (2 * g + 1) = 4 * g + 2 by omega] at this
    exact this
  have o3 : nI (4 * g) ||| nI 1 = nI (4 * g + 1) := fa_or_sum (k := 2) g (by decide)
  have o4 : ∀ n, nI n ||| nI 0 = nI n := fun n => by rw [fa_or, Nat.or_zero]
  rw [f_X7_markOf, f_X7_markOf_J12, f_X7_markOf_J12]
  simp only [f_X7_markOf_J22, lt_v, hs]
  have hk' : k = 0 ∨ k = 1 := by omega
  have hb' : b = 0 ∨ b = 1 := by omega
  rcases hk' with rfl | rfl <;> rcases hb' with rfl | rfl
  · simp only [fa_lit, if_pos]
    rw [o1 0 (by decide), o4]
  · rw [if_neg (by decide), if_pos (by decide)]
    simp only [fa_lit]
    rw [o1 2 (by decide), o4]
  · rw [if_pos (by decide), if_neg (by decide)]
    simp only [fa_lit]
    rw [o1 0 (by decide), Nat.add_zero, o3]
  · rw [if_neg (by decide), if_neg (by decide)]
    simp only [fa_lit]
    rw [o1 2 (by decide), o2]
theorem p_kindOf (m : Nat) : f_X7_kindOfMark (nI m) = some (nI (m % 2)) := by
  rw [f_X7_kindOfMark]
  exact so_inj (fa_mask m 1)
theorem fa_and2 (m : Nat) : nI m &&& (2 : Int32) = nI (m / 2 % 2 * 2) := by
  show nI m &&& nI 2 = _
  rw [fa_and]
  refine nI_inj ?_
  apply Nat.eq_of_testBit_eq
  intro i
  rw [Nat.testBit_and, show (2 : Nat) = 2 ^ 1 by decide, Nat.testBit_two_pow, Nat.mul_comm, Nat.testBit_two_pow_mul]
  rcases Nat.lt_or_ge i 1 with q | q
  · have : i = 0 := by omega
    subst this
    simp
  · by_cases e : i = 1
    · subst e
      simp [Nat.testBit, Nat.shiftRight_eq_div_pow]
    · have hlt : m / 2 % 2 < 2 ^ (i - 1) := Nat.lt_of_lt_of_le (Nat.mod_lt _ (by decide)) (by
        have : 2 ^ 1 ≤ 2 ^ (i - 1) := Nat.pow_le_pow_right (by decide) (by omega)
        omega)
      rw [show (2 : Nat) ^ 1 = 2 by decide, Nat.testBit_lt_two_pow hlt]
      simp [Ne.symm e]
theorem p_burrOf {m : Nat} (h : m < 2 ^ 31) : f_X7_burrOfMark (nI m) = some (nI (m / 2 % 2)) := by
  rw [f_X7_burrOfMark, fa_and2, pk_shrN (by omega) _ 1 (by decide)]
  exact so_inj (nI_inj (by omega))
theorem p_gapOf {m : Nat} (h : m < 2 ^ 31) : f_X7_gapOfMark (nI m) = some (nI (m / 4)) := by
  rw [f_X7_gapOfMark, pk_shrN h _ 2 (by decide)]
theorem p_gapAt {d w : Nat} (hd : d < 2 ^ 20) (hw : w < 2 ^ 20) : f_X0_gapAt (nI d) (nI w) = some (nI (gp d w)) := by
  rw [f_X0_gapAt]
  unfold gp
  simp (disch := omega) only [fa_lit, pk_mul, pk_div, lt_v]
  by_cases h : w / 5 ≤ 10 * d
  · rw [pk_sub h]
    by_cases h2 : 10 < 10 * d - w / 5
    · rw [if_pos (nI_lt h2 (by omega))]
      exact so_inj (nI_inj (by omega))
    · rw [if_neg (nI_nlt (by omega) (by omega))]
      exact so_inj (nI_inj (by omega))
  · have hn : nI (10 * d) - nI (w / 5) < 0 := pk_sneg (by omega) (by omega)
    rw [if_neg (fun q => ?_)]
    · exact so_inj (nI_inj (by omega))
    · rw [Int32.lt_iff_toInt_lt] at hn q
      rw [nI_toInt (by decide)] at q
      rw [Int32.toInt_zero] at hn
      omega
theorem p_gap {d w : Nat} (hd : d < 2 ^ 20) (hw : w < 2 ^ 20) : f_X0_gap (nI d) (nI w) = some (nI (gp d w)) := by
  rw [f_X0_gap, p_gapAt hd hw]
  rfl
theorem p_warm {a w : Nat} (ha : a < 2 ^ 20) (hw : w < 2 ^ 20) (g : Int32) : f_X0_warmByGrinding (nI a) (nI w) g = some (nI (min 300 (w + a / 4)), g + nI a) := by
  rw [f_X0_warmByGrinding]
  simp (disch := omega) only [fa_lit, pk_div, nI_add, nI_ltI, lt_v]
  by_cases h : w + a / 4 < 300
  · rw [if_pos h]
    exact so_inj (Prod.ext (nI_inj (by show _ = _; omega)) rfl)
  · rw [if_neg h]
    exact so_inj (Prod.ext (nI_inj (by show _ = _; omega)) rfl)
theorem cl_zero : ∀ n, cl n 0 = 0
  | 0 => rfl
  | n + 1 => cl_zero n
theorem p_cool_L {T : Nat} (hT : T < 2 ^ 30) : ∀ (w i fuel : Nat), w ≤ 300 → w < fuel → i < 2 ^ 30 → f_X0_cool_L2 (nI T) fuel (nI i) (nI w) = some (nI (cl (T - i) w)) := by
  intro w
  induction w using Nat.strongRecOn with
  | _ w ih =>
    intro i fuel hw hf hi
    obtain ⟨fu, rfl⟩ : ∃ fu, fuel = fu + 1 := ⟨fuel - 1, by omega⟩
    rw [f_X0_cool_L2]
    by_cases h1 : T ≤ i
    · rw [if_pos (nI_le h1 (by omega)), show T - i = 0 by omega]
      rfl
    · rw [if_neg (nI_ge (by omega) (by omega))]
      by_cases h2 : w = 0
      · subst h2
        rw [if_pos (by rw [nI_0]; exact Int32.le_refl 0), cl_zero]
      · rw [if_neg (nI_nle (by omega) (by omega)), p_fall (by omega)]
        have hl := fl_le w
        have hp := fl_pos (w := w) (by omega)
        simp only [Option.bind_some, lt_v]
        rw [pk_sub hl, fa_lit, nI_add, ih (w - fl w) (by omega) (i + 1) fu (by omega) (by omega) (by omega)]
        obtain ⟨k, hk⟩ : ∃ k, T - i = k + 1 := ⟨T - i - 1, by omega⟩
        rw [show T - (i + 1) = k by omega, hk]
        rfl
theorem p_cool {T w : Nat} (hT : T < 2 ^ 30) (hw : w ≤ 300) : f_X0_cool (nI T) (nI w) = some (nI (cl T w)) := by
  rw [f_X0_cool]
  have := p_cool_L hT w 0 FU hw (by show w < 20000; omega) (by omega)
  rw [nI_0] at this
  exact this
theorem p_coolings_L {t : Nat} (ht : t < 2 ^ 30) (w0 : Int32) : ∀ (w i fuel : Nat), w + i ≤ 300 → w < fuel → f_X0_coolingsTo_L7 w0 (nI t) fuel (nI i) (nI w) = some (nI (i + ct (300 - i) w t)) := by
  intro w
  induction w using Nat.strongRecOn with
  | _ w ih =>
    intro i fuel hw hf
    obtain ⟨fu, rfl⟩ : ∃ fu, fuel = fu + 1 := ⟨fuel - 1, by omega⟩
    rw [f_X0_coolingsTo_L7]
    by_cases h1 : w ≤ t
    · rw [if_pos (nI_le h1 (by omega))]
      cases hk : 300 - i with
      | zero => rfl
      | succ k => rw [ct, if_neg (by omega)]; rfl
    · rw [if_neg (nI_ge (by omega) (by omega)), if_neg (by rw [fa_lit 300]; exact nI_ge (by omega) (by decide)), p_fall (by omega)]
      have hl := fl_le w
      have hp := fl_pos (w := w) (by omega)
      simp only [Option.bind_some, lt_v]
      rw [pk_sub hl, fa_lit, nI_add, ih (w - fl w) (by omega) (i + 1) fu (by omega) (by omega)]
      obtain ⟨k, hk⟩ : ∃ k, 300 - i = k + 1 := ⟨300 - i - 1, by omega⟩
      rw [show 300 - (i + 1) = k by omega, hk, ct, if_pos (by omega)]
      exact so_inj (nI_inj (by omega))
theorem p_coolings {t w : Nat} (ht : t < 2 ^ 30) (hw : w ≤ 300) : f_X0_coolingsTo (nI t) (nI w) = some (nI (ct 300 w t)) := by
  rw [f_X0_coolingsTo]
  have := p_coolings_L ht (nI w) w 0 FU (by omega) (by show w < 20000; omega)
  rw [nI_0, Nat.zero_add] at this
  exact this
theorem p_correct {d t g : Nat} (hd : d ≤ 60) (ht : t ≤ 30000) (hg : 100 ≤ g) (hg2 : g ≤ 600) (k : Int32) : f_X0_correctBy (nI t) (nI g) (nI d) k = some (nI (cor d t g), k + 1) := by
  have hdt : d * t ≤ 60 * 30000 := Nat.mul_le_mul hd ht
  rw [f_X0_correctBy]
  unfold cor
  generalize hm : d * t = m at hdt ⊢
  rw [pk_mul, hm]
  have hq : (m + g / 2) / g ≤ m + g / 2 := Nat.div_le_self _ _
  generalize hz : (m + g / 2) / g = z at hq ⊢
  rw [fa_lit 1, fa_lit 2, fa_lit 60, if_pos (nI_lt (by omega) (by omega)), lt_v, gd_t (nI_ne0 (by omega) (by omega)), pk_div (by omega) (by decide) (by decide), nI_add, pk_div (by omega) (by omega) (by omega), hz, lt_v]
  by_cases h1 : z < 60
  · rw [if_pos (nI_lt h1 (by decide)), lt_v]
    by_cases h2 : 1 < z
    · rw [if_pos (nI_lt h2 (by omega)), lt_v, lt_v]
      exact so_inj (Prod.ext (nI_inj (by show _ = _; omega)) rfl)
    · rw [if_neg (nI_nlt (by omega) (by decide)), lt_v, lt_v]
      exact so_inj (Prod.ext (nI_inj (by show _ = _; omega)) rfl)
  · rw [if_neg (nI_nlt (by omega) (by omega)), lt_v, if_pos (nI_lt (by decide) (by decide)), lt_v, lt_v]
    exact so_inj (Prod.ext (nI_inj (by show _ = _; omega)) rfl)
