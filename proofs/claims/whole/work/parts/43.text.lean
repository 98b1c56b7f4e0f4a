/-! the text's orders: what is read -/
def chT (tx : List Nat) (i : Nat) : Nat := tx.getD i 0
theorem chT_out {tx : List Nat} {i : Nat} (h : tx.length ≤ i) : chT tx i = 0 := by
  unfold chT
  rw [List.getD_eq_getElem?_getD, List.getElem?_eq_none h]
  rfl
theorem chT_in {tx : List Nat} {sg : Nat → Int32} {n : Int32} (h : TX tx sg n) {i : Nat} (hi : i < tx.length) : sg i = nI (chT tx i) ∧ 32 ≤ chT tx i ∧ chT tx i ≤ 126 := by
  refine ⟨h.2.2.2 i hi, ?_⟩
  unfold chT
  rw [List.getD_eq_getElem?_getD, List.getElem?_eq_getElem hi]
  exact h.2.2.1 _ (List.getElem_mem hi)
theorem chT_le {tx : List Nat} {sg : Nat → Int32} {n : Int32} (h : TX tx sg n) (i : Nat) : chT tx i ≤ 126 := by
  rcases Nat.lt_or_ge i tx.length with q | q
  · exact (chT_in h q).2.2
  · rw [chT_out q]; omega
theorem chT_pos {tx : List Nat} {i : Nat} (h : chT tx i ≠ 0) : i < tx.length := by
  rcases Nat.lt_or_ge i tx.length with q | q
  · exact q
  · exact absurd (chT_out q) h
/-- a number: at most k digits from i on, v so far: the number, the place behind it -/
def rn (tx : List Nat) : Nat → Nat → Nat → Nat × Nat
  | 0, i, v => (v, i)
  | k + 1, i, v => if 48 ≤ chT tx i ∧ chT tx i ≤ 57 then rn tx k (i + 1) (10 * v + (chT tx i - 48)) else (v, i)
theorem rn_ge (tx : List Nat) : ∀ (k i v : Nat), i ≤ (rn tx k i v).2 ∧ (rn tx k i v).2 ≤ i + k ∧ ((rn tx k i v).2 = i → (rn tx k i v).1 = v) ∧ ((rn tx k i v).2 ≠ i → (rn tx k i v).2 ≤ tx.length)
  | 0, i, v => ⟨Nat.le_refl _, Nat.le_refl _, fun _ => rfl, fun h => absurd rfl h⟩
  | k + 1, i, v => by
    rw [rn]
    by_cases c : 48 ≤ chT tx i ∧ chT tx i ≤ 57
    · rw [if_pos c]
      have h := rn_ge tx k (i + 1) (10 * v + (chT tx i - 48))
      have hp := chT_pos (tx := tx) (i := i) (by omega)
      refine ⟨by omega, by omega, fun q => by omega, fun _ => ?_⟩
      by_cases e : (rn tx k (i + 1) (10 * v + (chT tx i - 48))).2 = i + 1
      · omega
      · exact h.2.2.2 e
    · rw [if_neg c]
      exact ⟨Nat.le_refl _, by show i ≤ i + (k + 1); omega, fun _ => rfl, fun h => absurd rfl h⟩
theorem rn_lt (tx : List Nat) : ∀ (k i v : Nat), (rn tx k i v).1 < (v + 1) * 10 ^ k
  | 0, i, v => by show v < (v + 1) * 1; omega
  | k + 1, i, v => by
    rw [rn]
    have hp : 0 < 10 ^ k := Nat.pow_pos (by decide)
    by_cases c : 48 ≤ chT tx i ∧ chT tx i ≤ 57
    · rw [if_pos c]
      have h := rn_lt tx k (i + 1) (10 * v + (chT tx i - 48))
      have h2 : (10 * v + (chT tx i - 48) + 1) * 10 ^ k ≤ ((v + 1) * 10) * 10 ^ k := Nat.mul_le_mul (by omega) (Nat.le_refl _)
      rw [Nat.pow_succ, Nat.mul_comm (10 ^ k) 10, ← Nat.mul_assoc]
      omega
    · rw [if_neg c]
      show v < (v + 1) * 10 ^ (k + 1)
      have h2 : (v + 1) * 1 ≤ (v + 1) * 10 ^ (k + 1) := Nat.mul_le_mul (Nat.le_refl _) (Nat.pow_pos (by decide))
      omega
theorem rn3 (tx : List Nat) (i : Nat) : (rn tx 3 i 0).1 ≤ 999 := by
  have := rn_lt tx 3 i 0
  omega
/-- an order from i on: what it is (letter and numbers) if it is of the form; where it breaks off, or the place behind it -/
def rd (tx : List Nat) (i : Nat) : Option (Nat × Nat × Nat) × Nat :=
  if chT tx i = 98 ∨ chT tx i = 102 ∨ chT tx i = 103 then
    if (rn tx 3 (i + 1) 0).2 = i + 1 then (none, i + 1)
    else if chT tx (rn tx 3 (i + 1) 0).2 = 44 then
      if (rn tx 3 ((rn tx 3 (i + 1) 0).2 + 1) 0).2 = (rn tx 3 (i + 1) 0).2 + 1 then (none, (rn tx 3 (i + 1) 0).2 + 1)
      else if chT tx (rn tx 3 ((rn tx 3 (i + 1) 0).2 + 1) 0).2 = 59 then (some (chT tx i, (rn tx 3 (i + 1) 0).1, (rn tx 3 ((rn tx 3 (i + 1) 0).2 + 1) 0).1), (rn tx 3 ((rn tx 3 (i + 1) 0).2 + 1) 0).2 + 1)
      else (none, (rn tx 3 ((rn tx 3 (i + 1) 0).2 + 1) 0).2)
    else (none, (rn tx 3 (i + 1) 0).2)
  else if chT tx i = 112 ∨ chT tx i = 115 then
    if chT tx (i + 1) = 59 then (some (chT tx i, 0, 0), i + 2) else (none, i + 1)
  else if chT tx i = 119 then
    if (rn tx 3 (i + 1) 0).2 = i + 1 then (none, i + 1)
    else if chT tx (rn tx 3 (i + 1) 0).2 = 59 then (some (chT tx i, (rn tx 3 (i + 1) 0).1, 0), (rn tx 3 (i + 1) 0).2 + 1)
    else (none, (rn tx 3 (i + 1) 0).2)
  else (none, i)
theorem p_sign {tx : List Nat} {sg : Nat → Int32} {oL : Int32} (h : TX tx sg oL) {i : Nat} (hi : i < 2 ^ 31) : f_X4_signHere sg oL (nI i) = some (nI (chT tx i)) := by
  have hlen := h.2.1
  rw [f_X4_signHere, if_neg (nI_pos hi), h.1]
  by_cases c : i < tx.length
  · obtain ⟨e1, e2, e3⟩ := chT_in h c
    rw [if_neg (nI_ge c (by omega)), if_pos (show nI i < (60 : Int32) from nI_lt (b := 60) (by omega) (by decide)), gd_t (nI_in (by omega) (by decide)), v_cl hi, lt_v, e1, gd_t ⟨nI_pos (by omega), by rw [v_cl (by omega)]; omega⟩]
  · rw [if_pos (nI_le (by omega) hi), chT_out (by omega)]
    rfl
theorem p_passSign {tx : List Nat} {sg : Nat → Int32} {oL : Int32} (h : TX tx sg oL) {i c : Nat} (hi : i < 2 ^ 30) (hc : c < 2 ^ 30) : f_X4_passSign (nI c) sg oL (nI i) = some (if chT tx i = c then (1, nI (i + 1)) else (0, nI i)) := by
  have := chT_le h i
  rw [f_X4_passSign, p_sign h (by omega), Option.bind_some]
  by_cases q : chT tx i = c
  · rw [if_pos (congrArg nI q), if_pos q, lt_v, nI_1]
  · rw [if_neg (fun z => q ((nI_eq (by omega) (by omega)).mp z)), if_neg q]
theorem p_isDigit {c : Nat} (h : c < 2 ^ 31) : f_X4_isDigit (nI c) = some (if 48 ≤ c ∧ c ≤ 57 then 1 else 0) := by
  rw [f_X4_isDigit]
  by_cases c1 : c < 48
  · rw [if_pos (show nI c < (48 : Int32) from nI_lt (b := 48) c1 (by decide)), if_neg (by omega)]
  · rw [if_neg (show ¬ nI c < (48 : Int32) from nI_nlt (b := 48) (by omega) h)]
    by_cases c2 : 57 < c
    · rw [if_pos (show (57 : Int32) < nI c from nI_lt (a := 57) c2 h), if_neg (by omega)]
    · rw [if_neg (show ¬ (57 : Int32) < nI c from nI_nlt (a := 57) (by omega) (by decide)), if_pos (by omega)]
theorem p_num_L {tx : List Nat} {sg : Nat → Int32} {oL : Int32} (h : TX tx sg oL) : ∀ (k d i v fuel : Nat) (y : Int32), d + k = 3 → k < fuel → i + k < 2 ^ 20 → v < 10 ^ d → (if (0 : Int32) < y then y else 0) = nI v → f_X4_readNumber_L4 sg oL fuel y (nI d) (nI i) = some (if (rn tx k i v).2 = i then y else nI (rn tx k i v).1, nI (rn tx k i v).2) := by
  intro k
  induction k with
  | zero =>
    intro d i v fuel y hd hf hi hv hy
    obtain ⟨fu, rfl⟩ : ∃ fu, fuel = fu + 1 := ⟨fuel - 1, by omega⟩
    rw [f_X4_readNumber_L4, if_pos (show (3 : Int32) ≤ nI d from nI_le (a := 3) (by omega) (by omega))]
    show some (y, nI i) = some (if i = i then y else nI v, nI i)
    rw [if_pos rfl]
  | succ k ih =>
    intro d i v fuel y hd hf hi hv hy
    obtain ⟨fu, rfl⟩ : ∃ fu, fuel = fu + 1 := ⟨fuel - 1, by omega⟩
    have hc := chT_le h i
    have hv3 : v < 1000 := Nat.lt_of_lt_of_le hv (Nat.pow_le_pow_right (by decide) (by omega : d ≤ 3))
    rw [f_X4_readNumber_L4, if_neg (show ¬ (3 : Int32) ≤ nI d from nI_ge (b := 3) (by omega) (by decide)), p_sign h (by omega), Option.bind_some, p_isDigit (by omega), Option.bind_some, rn]
    by_cases c : 48 ≤ chT tx i ∧ chT tx i ≤ 57
    · have g := rn_ge tx k (i + 1) (10 * v + (chT tx i - 48))
      have hv' : 10 * v + (chT tx i - 48) < 10 ^ (d + 1) := by
        rw [Nat.pow_succ]
        omega
      have hpos : (if (0 : Int32) < nI (10 * v + (chT tx i - 48)) then nI (10 * v + (chT tx i - 48)) else 0) = nI (10 * v + (chT tx i - 48)) := by
        by_cases z : 10 * v + (chT tx i - 48) = 0
        · rw [z]; rfl
        · rw [if_pos (show (0 : Int32) < _ from nI_lt (a := 0) (by omega) (by omega))]
      have ih' := ih (d + 1) (i + 1) (10 * v + (chT tx i - 48)) fu (nI (10 * v + (chT tx i - 48))) (by omega) (by omega) (by omega) hv' hpos
      rw [if_pos c, if_neg n10, hy, lt_v, Option.bind_some, fa_lit 10, pk_mul, fa_lit 48, pk_sub c.1, nI_add, lt_v, lt_v, lt_v, nI_1, nI_1, Nat.mul_comm v 10, ih', if_pos c, if_neg (show ¬ (rn tx k (i + 1) (10 * v + (chT tx i - 48))).2 = i by omega)]
      by_cases e : (rn tx k (i + 1) (10 * v + (chT tx i - 48))).2 = i + 1
      · rw [if_pos e, g.2.2.1 e]
      · rw [if_neg e]
    · rw [if_neg c, if_pos rfl, if_neg c]
      show some (y, nI i) = some (if i = i then y else nI v, nI i)
      rw [if_pos rfl]
theorem p_num {tx : List Nat} {sg : Nat → Int32} {oL : Int32} (h : TX tx sg oL) {i : Nat} (hi : i < 2 ^ 19) : f_X4_readNumber sg oL (nI i) = some (if (rn tx 3 i 0).2 = i then -1 else nI (rn tx 3 i 0).1, nI (rn tx 3 i 0).2) := by
  have := p_num_L h 3 0 i 0 FU (-1) (by omega) (by show 3 < 20000; omega) (by omega) (by decide) (by decide)
  rw [f_X4_readNumber]
  exact this
theorem nI_m1 {n : Nat} (h : n < 2 ^ 31) : ¬ nI n = (-1 : Int32) := fun q => by
  have := nI_pos' h
  rw [q] at this
  exact absurd this (by decide)
theorem p_first {tx : List Nat} {sg : Nat → Int32} {oL : Int32} (h : TX tx sg oL) {i : Nat} (hi : i < 2 ^ 19) (oF : Int32) : ∃ z, f_X4_readFirstNumber sg oL (nI i) oF = some (if (rn tx 3 i 0).2 = i then 0 else 1, nI (rn tx 3 i 0).2, z) ∧ ((rn tx 3 i 0).2 ≠ i → z = nI (rn tx 3 i 0).1) := by
  have h9 := rn3 tx i
  rw [f_X4_readFirstNumber, p_num h hi, Option.bind_some]
  by_cases e : (rn tx 3 i 0).2 = i
  · rw [if_pos e, if_pos e, if_pos rfl]
    exact ⟨_, rfl, fun q => absurd e q⟩
  · rw [if_neg e, if_neg e, if_neg (nI_m1 (by omega))]
    exact ⟨_, rfl, fun _ => rfl⟩
theorem p_second {tx : List Nat} {sg : Nat → Int32} {oL : Int32} (h : TX tx sg oL) {i : Nat} (hi : i < 2 ^ 19) (oS : Int32) : ∃ z, f_X4_readSecondNumber sg oL (nI i) oS = some (if (rn tx 3 i 0).2 = i then 0 else 1, nI (rn tx 3 i 0).2, z) ∧ ((rn tx 3 i 0).2 ≠ i → z = nI (rn tx 3 i 0).1) := p_first h hi oS
/-- what is known of an order that was read: its letter; the numbers that it has -/
def ordK (o : Nat × Nat × Nat) (c a b : Int32) : Prop := c = nI o.1 ∧ o.2.1 ≤ 999 ∧ o.2.2 ≤ 999 ∧ (((o.1 = 98 ∨ o.1 = 102 ∨ o.1 = 103) ∧ a = nI o.2.1 ∧ b = nI o.2.2) ∨ (o.1 = 119 ∧ a = nI o.2.1) ∨ o.1 = 112 ∨ o.1 = 115)
def rdK (r : Option (Nat × Nat × Nat) × Nat) (f at' c a b : Int32) : Prop := at' = nI r.2 ∧ ((r.1 = none ∧ f = 0) ∨ ∃ o, r.1 = some o ∧ f = 1 ∧ ordK o c a b)
theorem p_two {tx : List Nat} {sg : Nat → Int32} {oL : Int32} (h : TX tx sg oL) {i : Nat} (hi : i < 1000) (c : chT tx i = 98 ∨ chT tx i = 102 ∨ chT tx i = 103) (oF oS : Int32) : ∃ R, lt (nI i + (1 : Int32)) (fun v4 => (f_X4_readFirstNumber sg oL v4 oF).bind fun q5 => (if q5.1 = 0 then some ((0 : Int32), q5.2.1, nI (chT tx i), q5.2.2, oS) else (f_X4_passSign (44 : Int32) sg oL q5.2.1).bind fun q7 => (if q7.1 = 0 then some ((0 : Int32), q7.2, nI (chT tx i), q5.2.2, oS) else (f_X4_readSecondNumber sg oL q7.2 oS).bind fun q9 => (if q9.1 = 0 then some ((0 : Int32), q9.2.1, nI (chT tx i), q5.2.2, q9.2.2) else (f_X4_passSign (59 : Int32) sg oL q9.2.1).bind fun q11 => (if q11.1 = 0 then some ((0 : Int32), q11.2, nI (chT tx i), q5.2.2, q9.2.2) else some ((1 : Int32), q11.2, nI (chT tx i), q5.2.2, q9.2.2)))))) = some R ∧ rdK (rd tx i) R.1 R.2.1 R.2.2.1 R.2.2.2.1 R.2.2.2.2 := by
  have g1 := rn_ge tx 3 (i + 1) 0
  have g2 := rn_ge tx 3 ((rn tx 3 (i + 1) 0).2 + 1) 0
  have b1 := rn3 tx (i + 1)
  have b2 := rn3 tx ((rn tx 3 (i + 1) 0).2 + 1)
  obtain ⟨z1, e1, f1⟩ := p_first h (i := i + 1) (by omega) oF
  obtain ⟨z2, e2, f2⟩ := p_second h (i := (rn tx 3 (i + 1) 0).2 + 1) (by omega) oS
  have s1 := p_passSign h (i := (rn tx 3 (i + 1) 0).2) (c := 44) (by omega) (by decide)
  have s2 := p_passSign h (i := (rn tx 3 ((rn tx 3 (i + 1) 0).2 + 1) 0).2) (c := 59) (by omega) (by decide)
  have s1' : f_X4_passSign (44 : Int32) sg oL (nI (rn tx 3 (i + 1) 0).2) = _ := s1
  have s2' : f_X4_passSign (59 : Int32) sg oL (nI (rn tx 3 ((rn tx 3 (i + 1) 0).2 + 1) 0).2) = _ := s2
  rw [lt_v, nI_1, e1, Option.bind_some]
  unfold rd
  rw [if_pos c]
  by_cases d1 : (rn tx 3 (i + 1) 0).2 = i + 1
  · rw [if_pos d1, if_pos d1, if_pos rfl, d1]
    exact ⟨_, rfl, rfl, Or.inl ⟨rfl, rfl⟩⟩
  · rw [if_neg d1, if_neg d1, if_neg n10, s1', Option.bind_some]
    by_cases d2 : chT tx (rn tx 3 (i + 1) 0).2 = 44
    · rw [if_pos d2, if_pos d2, if_neg n10, e2, Option.bind_some]
      by_cases d3 : (rn tx 3 ((rn tx 3 (i + 1) 0).2 + 1) 0).2 = (rn tx 3 (i + 1) 0).2 + 1
      · rw [if_pos d3, if_pos d3, if_pos rfl, d3]
        exact ⟨_, rfl, rfl, Or.inl ⟨rfl, rfl⟩⟩
      · rw [if_neg d3, if_neg d3, if_neg n10, s2', Option.bind_some]
        by_cases d4 : chT tx (rn tx 3 ((rn tx 3 (i + 1) 0).2 + 1) 0).2 = 59
        · rw [if_pos d4, if_pos d4, if_neg n10]
          exact ⟨_, rfl, rfl, Or.inr ⟨_, rfl, rfl, rfl, b1, b2, Or.inl ⟨c, f1 d1, f2 d3⟩⟩⟩
        · rw [if_neg d4, if_neg d4, if_pos rfl]
          exact ⟨_, rfl, rfl, Or.inl ⟨rfl, rfl⟩⟩
    · rw [if_neg d2, if_neg d2, if_pos rfl]
      exact ⟨_, rfl, rfl, Or.inl ⟨rfl, rfl⟩⟩
theorem p_none {tx : List Nat} {sg : Nat → Int32} {oL : Int32} (h : TX tx sg oL) {i : Nat} (hi : i < 1000) (c : chT tx i = 112 ∨ chT tx i = 115) (oF oS : Int32) : ∃ R, lt (nI i + (1 : Int32)) (fun v34 => (f_X4_passSign (59 : Int32) sg oL v34).bind fun q35 => gd (q35.1 = 0 ∨ q35.1 = 1) (some (q35.1, q35.2, nI (chT tx i), oF, oS))) = some R ∧ rdK (rd tx i) R.1 R.2.1 R.2.2.1 R.2.2.2.1 R.2.2.2.2 := by
  have s1 := p_passSign h (i := i + 1) (c := 59) (by omega) (by decide)
  have s1' : f_X4_passSign (59 : Int32) sg oL (nI (i + 1)) = _ := s1
  rw [lt_v, nI_1, s1', Option.bind_some]
  unfold rd
  rw [if_neg (show ¬ (chT tx i = 98 ∨ chT tx i = 102 ∨ chT tx i = 103) by omega), if_pos c]
  by_cases d1 : chT tx (i + 1) = 59
  · rw [if_pos d1, if_pos d1, gd_t (Or.inr rfl)]
    exact ⟨_, rfl, rfl, Or.inr ⟨_, rfl, rfl, rfl, Nat.zero_le _, Nat.zero_le _, Or.inr (Or.inr c)⟩⟩
  · rw [if_neg d1, if_neg d1, gd_t (Or.inl rfl)]
    exact ⟨_, rfl, rfl, Or.inl ⟨rfl, rfl⟩⟩
theorem p_rd {tx : List Nat} {sg : Nat → Int32} {oL : Int32} (h : TX tx sg oL) {i : Nat} (hi : i < 1000) (oC oF oS : Int32) : ∃ R, f_X4_readOrder sg oL (nI i) oC oF oS = some R ∧ rdK (rd tx i) R.1 R.2.1 R.2.2.1 R.2.2.2.1 R.2.2.2.2 := by
  have hc := chT_le h i
  have ne : ∀ n : Nat, n < 2 ^ 31 → chT tx i ≠ n → ¬ nI (chT tx i) = nI n := fun n hn q z => q ((nI_eq (by omega) hn).mp z)
  rw [f_X4_readOrder, p_sign h (by omega), Option.bind_some, gd_t ⟨nI_pos (by omega), by rw [v_cl (by omega)]; omega⟩]
  by_cases c1 : chT tx i = 98
  · rw [if_pos (show nI (chT tx i) = (98 : Int32) from congrArg nI c1)]
    exact p_two h hi (Or.inl c1) oF oS
  rw [if_neg (show ¬ nI (chT tx i) = (98 : Int32) from ne 98 (by decide) c1)]
  by_cases c2 : chT tx i = 102
  · rw [if_pos (show nI (chT tx i) = (102 : Int32) from congrArg nI c2)]
    exact p_two h hi (Or.inr (Or.inl c2)) oF oS
  rw [if_neg (show ¬ nI (chT tx i) = (102 : Int32) from ne 102 (by decide) c2)]
  by_cases c3 : chT tx i = 103
  · rw [if_pos (show nI (chT tx i) = (103 : Int32) from congrArg nI c3)]
    exact p_two h hi (Or.inr (Or.inr c3)) oF oS
  rw [if_neg (show ¬ nI (chT tx i) = (103 : Int32) from ne 103 (by decide) c3)]
  by_cases c4 : chT tx i = 112
  · rw [if_pos (show nI (chT tx i) = (112 : Int32) from congrArg nI c4)]
    exact p_none h hi (Or.inl c4) oF oS
  rw [if_neg (show ¬ nI (chT tx i) = (112 : Int32) from ne 112 (by decide) c4)]
  by_cases c5 : chT tx i = 115
  · rw [if_pos (show nI (chT tx i) = (115 : Int32) from congrArg nI c5)]
    exact p_none h hi (Or.inr c5) oF oS
  rw [if_neg (show ¬ nI (chT tx i) = (115 : Int32) from ne 115 (by decide) c5)]
  unfold rd
  rw [if_neg (show ¬ (chT tx i = 98 ∨ chT tx i = 102 ∨ chT tx i = 103) by omega), if_neg (show ¬ (chT tx i = 112 ∨ chT tx i = 115) by omega)]
  by_cases c6 : chT tx i = 119
  · have g1 := rn_ge tx 3 (i + 1) 0
    have b1 := rn3 tx (i + 1)
    obtain ⟨z1, e1, f1⟩ := p_first h (i := i + 1) (by omega) oF
    have s1 := p_passSign h (i := (rn tx 3 (i + 1) 0).2) (c := 59) (by omega) (by decide)
    have s1' : f_X4_passSign (59 : Int32) sg oL (nI (rn tx 3 (i + 1) 0).2) = _ := s1
    rw [if_pos (show nI (chT tx i) = (119 : Int32) from congrArg nI c6), if_pos c6, lt_v, nI_1, e1, Option.bind_some]
    by_cases d1 : (rn tx 3 (i + 1) 0).2 = i + 1
    · rw [if_pos d1, if_pos d1, if_pos rfl, d1]
      exact ⟨_, rfl, rfl, Or.inl ⟨rfl, rfl⟩⟩
    · rw [if_neg d1, if_neg d1, if_neg n10, s1', Option.bind_some]
      by_cases d2 : chT tx (rn tx 3 (i + 1) 0).2 = 59
      · rw [if_pos d2, if_pos d2, if_neg n10]
        exact ⟨_, rfl, rfl, Or.inr ⟨_, rfl, rfl, rfl, b1, Nat.zero_le _, Or.inr (Or.inl ⟨c6, f1 d1⟩)⟩⟩
      · rw [if_neg d2, if_neg d2, if_pos rfl]
        exact ⟨_, rfl, rfl, Or.inl ⟨rfl, rfl⟩⟩
  · rw [if_neg (show ¬ nI (chT tx i) = (119 : Int32) from ne 119 (by decide) c6), if_neg c6]
    exact ⟨_, rfl, rfl, Or.inl ⟨rfl, rfl⟩⟩
/-- an order that was read moves on by two at least, and not beyond the text -/
theorem rd_mv {tx : List Nat} {i : Nat} {o : Nat × Nat × Nat} (h : (rd tx i).1 = some o) : i + 2 ≤ (rd tx i).2 ∧ (rd tx i).2 ≤ tx.length := by
  have g1 := rn_ge tx 3 (i + 1) 0
  have g2 := rn_ge tx 3 ((rn tx 3 (i + 1) 0).2 + 1) 0
  unfold rd at h ⊢
  by_cases c1 : chT tx i = 98 ∨ chT tx i = 102 ∨ chT tx i = 103
  · rw [if_pos c1] at h ⊢
    by_cases d1 : (rn tx 3 (i + 1) 0).2 = i + 1
    · rw [if_pos d1] at h; cases h
    · rw [if_neg d1] at h ⊢
      by_cases d2 : chT tx (rn tx 3 (i + 1) 0).2 = 44
      · rw [if_pos d2] at h ⊢
        by_cases d3 : (rn tx 3 ((rn tx 3 (i + 1) 0).2 + 1) 0).2 = (rn tx 3 (i + 1) 0).2 + 1
        · rw [if_pos d3] at h; cases h
        · rw [if_neg d3] at h ⊢
          by_cases d4 : chT tx (rn tx 3 ((rn tx 3 (i + 1) 0).2 + 1) 0).2 = 59
          · rw [if_pos d4]
            have := chT_pos (tx := tx) (i := (rn tx 3 ((rn tx 3 (i + 1) 0).2 + 1) 0).2) (by omega)
            exact ⟨by show i + 2 ≤ _ + 1; omega, this⟩
          · rw [if_neg d4] at h; cases h
      · rw [if_neg d2] at h; cases h
  · rw [if_neg c1] at h ⊢
    by_cases c2 : chT tx i = 112 ∨ chT tx i = 115
    · rw [if_pos c2] at h ⊢
      by_cases d1 : chT tx (i + 1) = 59
      · rw [if_pos d1]
        have := chT_pos (tx := tx) (i := i + 1) (by omega)
        exact ⟨Nat.le_refl _, this⟩
      · rw [if_neg d1] at h; cases h
    · rw [if_neg c2] at h ⊢
      by_cases c3 : chT tx i = 119
      · rw [if_pos c3] at h ⊢
        by_cases d1 : (rn tx 3 (i + 1) 0).2 = i + 1
        · rw [if_pos d1] at h; cases h
        · rw [if_neg d1] at h ⊢
          by_cases d2 : chT tx (rn tx 3 (i + 1) 0).2 = 59
          · rw [if_pos d2]
            have := chT_pos (tx := tx) (i := (rn tx 3 (i + 1) 0).2) (by omega)
            exact ⟨by show i + 2 ≤ _ + 1; omega, this⟩
          · rw [if_neg d2] at h; cases h
      · rw [if_neg c3] at h; cases h
theorem rd_le (tx : List Nat) (i : Nat) : i ≤ (rd tx i).2 ∧ (rd tx i).2 ≤ i + 10 := by
  have g1 := rn_ge tx 3 (i + 1) 0
  have g2 := rn_ge tx 3 ((rn tx 3 (i + 1) 0).2 + 1) 0
  unfold rd
  repeat' split
  all_goals (simp only; omega)
