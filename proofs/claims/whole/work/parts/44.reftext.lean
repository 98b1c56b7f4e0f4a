/-! the reference reads orders -/
theorem r_isAt {tx : List Nat} {Tx : Nat → Int32} {typed : Int32} (h : TX tx Tx typed) {i a b : Nat} (hi : i < 2 ^ 31) (ha : 1 ≤ a) (ha2 : a < 2 ^ 31) (hb : b < 2 ^ 31) : f_X8_isAt (nI a) (nI b) Tx typed (nI i) = some (if a ≤ chT tx i ∧ chT tx i ≤ b then 1 else 0) := by
  have hlen := h.2.1
  rw [f_X8_isAt, h.1]
  by_cases c : i < tx.length
  · obtain ⟨e1, e2, e3⟩ := chT_in h c
    rw [if_neg (nI_ge c (by omega)), gd_t (nI_in (by omega) (by decide)), v_cl hi, e1, r_in, Option.bind_some]
    by_cases d1 : chT tx i < a
    · rw [if_pos (Or.inl (nI_lt d1 ha2)), if_pos rfl, if_neg (by omega)]
    · by_cases d2 : b < chT tx i
      · rw [if_pos (Or.inr (nI_lt d2 (by omega))), if_pos rfl, if_neg (by omega)]
      · rw [if_neg (show ¬ (nI (chT tx i) < nI a ∨ nI b < nI (chT tx i)) from fun q => by rcases q with q | q; exact nI_nlt (by omega) (by omega) q; exact nI_nlt (by omega) hb q), if_neg n10, if_pos (by omega)]
  · rw [if_pos (nI_le (by omega) hi), chT_out (by omega), if_neg (by omega)]
theorem r_sign {tx : List Nat} {Tx : Nat → Int32} {typed : Int32} (h : TX tx Tx typed) {i c : Nat} (hi : i < 2 ^ 30) (hc0 : 1 ≤ c) (hc : c < 2 ^ 30) : f_X8_sign (nI c) Tx typed (nI i) = some (if chT tx i = c then (1, nI (i + 1)) else (0, nI i)) := by
  rw [f_X8_sign, r_isAt h (by omega) hc0 (by omega) (by omega), Option.bind_some]
  by_cases q : chT tx i = c
  · rw [if_pos (show c ≤ chT tx i ∧ chT tx i ≤ c by omega), if_neg n10, f_X8_sign_J21, lt_v, gd_t (Or.inr rfl), nI_1, if_pos q]
  · rw [if_neg (show ¬ (c ≤ chT tx i ∧ chT tx i ≤ c) by omega), if_pos rfl, f_X8_sign_J21, lt_v, gd_t (Or.inl rfl), show nI i + (0 : Int32) = nI i from Int32.add_zero _, if_neg q]
theorem r_num_L {tx : List Nat} {Tx : Nat → Int32} {typed : Int32} (h : TX tx Tx typed) {w s : Nat} (hw : w < 2) : ∀ (k i v fuel : Nat) (told : Nat → Int32), i + k = s + 3 → k < fuel → i + k < 2 ^ 20 → s ≤ i → told w = nI v → v < 2 ^ 20 * 10 ^ (3 - k) → v < 1000 → (v < 10 ^ (3 - k)) → k ≤ 3 → ∃ told', f_X8_number_L12 Tx typed (nI w) (nI s) fuel told (nI i) = some (if (rn tx k i v).2 ≤ s then 0 else 1, told', nI (rn tx k i v).2) ∧ told' w = nI (rn tx k i v).1 ∧ ∀ j, j ≠ w → told' j = told j := by
  intro k
  have fin : ∀ (i : Nat) (told : Nat → Int32), i < 2 ^ 20 → s < 2 ^ 20 → f_X8_number_J74 Tx typed (nI s) told (nI i) = some (if i ≤ s then 0 else 1, told, nI i) := fun i told hi hs => by
    rw [f_X8_number_J74]
    by_cases c : i ≤ s
    · rw [if_pos (nI_le c (by omega)), if_pos c]
    · rw [if_neg (nI_ge (by omega) (by omega)), if_neg c]
  induction k with
  | zero =>
    intro i v fuel told hk hf hi hs hv _ hv2 hv3 _
    obtain ⟨fu, rfl⟩ : ∃ fu, fuel = fu + 1 := ⟨fuel - 1, by omega⟩
    have hc := chT_le h i
    have e := r_isAt h (i := i) (a := 48) (b := 57) (by omega) (by decide) (by decide) (by decide)
    have e' : f_X8_isAt (48 : Int32) (57 : Int32) Tx typed (nI i) = _ := e
    rw [f_X8_number_L12, e', Option.bind_some]
    refine ⟨told, ?_, hv, fun j _ => rfl⟩
    show _ = some (if i ≤ s then 0 else 1, told, nI i)
    by_cases c : 48 ≤ chT tx i ∧ chT tx i ≤ 57
    · rw [if_pos c, if_neg n10, pk_sub hs, if_pos (show (3 : Int32) ≤ nI (i - s) from nI_le (a := 3) (by omega) (by omega)), fin i told (by omega) (by omega)]
    · rw [if_neg c, if_pos rfl, fin i told (by omega) (by omega)]
  | succ k ih =>
    intro i v fuel told hk hf hi hs hv _ hv2 hv3 hk3
    obtain ⟨fu, rfl⟩ : ∃ fu, fuel = fu + 1 := ⟨fuel - 1, by omega⟩
    have hlen := h.2.1
    have hc := chT_le h i
    have e := r_isAt h (i := i) (a := 48) (b := 57) (by omega) (by decide) (by decide) (by decide)
    have e' : f_X8_isAt (48 : Int32) (57 : Int32) Tx typed (nI i) = _ := e
    rw [f_X8_number_L12, e', Option.bind_some, rn]
    by_cases c : 48 ≤ chT tx i ∧ chT tx i ≤ 57
    · have hp := chT_pos (tx := tx) (i := i) (by omega)
      have hex : 10 ^ (3 - k) = 10 ^ (3 - (k + 1)) * 10 := by rw [show 3 - k = 3 - (k + 1) + 1 by omega, Nat.pow_succ]
      have hle : 10 ^ (3 - k) ≤ 10 ^ 3 := Nat.pow_le_pow_right (by decide) (by omega)
      have hv' : 10 * v + (chT tx i - 48) < 10 ^ (3 - k) := by rw [hex]; omega
      have hv1 : 10 * v + (chT tx i - 48) < 1000 := Nat.lt_of_lt_of_le hv' hle
      have hv4 : 10 * v + (chT tx i - 48) < 2 ^ 20 * 10 ^ (3 - k) := Nat.lt_of_lt_of_le hv' (Nat.le_mul_of_pos_left _ (by decide))
      obtain ⟨told', a1, a2, a3⟩ := ih (i + 1) (10 * v + (chT tx i - 48)) fu (upd told w (nI (10 * v + (chT tx i - 48)))) (by omega) (by omega) (by omega) (by omega) pk_us hv4 hv1 hv' (by omega)
      refine ⟨told', ?_, ?_, fun j hj => (a3 j hj).trans (pk_un hj)⟩
      · have hgw := nI_in (c := w) (N := 2) hw (by decide)
        rw [if_pos c, if_neg n10, pk_sub hs, if_neg (show ¬ (3 : Int32) ≤ nI (i - s) from nI_ge (b := 3) (by omega) (by decide)), gd_t hgw, gd_t (nI_in (by omega) (by decide)), lt_v, gd_t hgw, lt_v, lt_v, v_cl (show w < 2 ^ 31 by omega), v_cl (show i < 2 ^ 31 by omega), hv, (chT_in h hp).1, fa_lit 10, pk_mul, nI_add, fa_lit 48, pk_sub (by omega), nI_1, show 10 * v + chT tx i - 48 = 10 * v + (chT tx i - 48) by omega, a1, if_pos c]
      · rw [if_pos c]; exact a2
    · rw [if_neg c, if_pos rfl, if_neg c]
      exact ⟨told, fin i told (by omega) (by omega), hv, fun j _ => rfl⟩
theorem r_num {tx : List Nat} {Tx : Nat → Int32} {typed : Int32} (h : TX tx Tx typed) {w i : Nat} (hw : w < 2) (hi : i < 2 ^ 19) (told : Nat → Int32) : ∃ told', f_X8_number (nI w) Tx told typed (nI i) = some (if (rn tx 3 i 0).2 = i then 0 else 1, told', nI (rn tx 3 i 0).2) ∧ told' w = nI (rn tx 3 i 0).1 ∧ ∀ j, j ≠ w → told' j = told j := by
  have g := rn_ge tx 3 i 0
  obtain ⟨told', a1, a2, a3⟩ := r_num_L h hw (s := i) 3 i 0 FU (upd told w (nI 0)) rfl (by show 3 < 20000; omega) (by omega) (Nat.le_refl _) pk_us (by decide) (by decide) (by decide) (Nat.le_refl _)
  refine ⟨told', ?_, a2, fun j hj => (a3 j hj).trans (pk_un hj)⟩
  have a1' : f_X8_number_L12 Tx typed (nI w) (nI i) FU (upd told w 0) (nI i) = _ := a1
  rw [f_X8_number, gd_t (nI_in hw (by decide)), lt_v, v_cl (by omega), a1']
  by_cases e : (rn tx 3 i 0).2 = i
  · rw [if_pos e, if_pos (by omega)]
  · rw [if_neg e, if_neg (by omega)]
theorem r_J154 {tx : List Nat} {Tx : Nat → Int32} {typed : Int32} (h : TX tx Tx typed) {i : Nat} (hi : i < 2 ^ 19) (told : Nat → Int32) (z : Int32) : f_X8_reads_J154 Tx typed told (nI i) z = some (if chT tx i = 59 then (1, told, nI (i + 1), z) else (0, told, nI i, z)) := by
  have s1 := r_sign h (i := i) (c := 59) (by omega) (by decide) (by decide)
  have s1' : f_X8_sign (59 : Int32) Tx typed (nI i) = _ := s1
  rw [f_X8_reads_J154, s1', Option.bind_some]
  by_cases c : chT tx i = 59
  · rw [if_pos c, if_pos c, if_neg n10]
  · rw [if_neg c, if_neg c, if_pos rfl]
theorem r_two {tx : List Nat} {Tx : Nat → Int32} {typed : Int32} (h : TX tx Tx typed) {i : Nat} (hi : i < 1000) (c : chT tx i = 98 ∨ chT tx i = 102 ∨ chT tx i = 103) (told : Nat → Int32) : ∃ R, f_X8_reads_J104 Tx typed 1 0 told (nI i) (nI (chT tx i)) = some R ∧ rdK (rd tx i) R.1 R.2.2.1 R.2.2.2 (R.2.1 0) (R.2.1 1) := by
  have g1 := rn_ge tx 3 (i + 1) 0
  have g2 := rn_ge tx 3 ((rn tx 3 (i + 1) 0).2 + 1) 0
  have b1 := rn3 tx (i + 1)
  have b2 := rn3 tx ((rn tx 3 (i + 1) 0).2 + 1)
  obtain ⟨t1, e1, f1, u1⟩ := r_num h (w := 0) (i := i + 1) (by decide) (by omega) told
  obtain ⟨t2, e2, f2, u2⟩ := r_num h (w := 1) (i := (rn tx 3 (i + 1) 0).2 + 1) (by decide) (by omega) t1
  have e1' : f_X8_number (0 : Int32) Tx told typed (nI (i + 1)) = _ := e1
  have e2' : f_X8_number (1 : Int32) Tx t1 typed (nI ((rn tx 3 (i + 1) 0).2 + 1)) = _ := e2
  have s1 := r_sign h (i := (rn tx 3 (i + 1) 0).2) (c := 44) (by omega) (by decide) (by decide)
  have s1' : f_X8_sign (44 : Int32) Tx typed (nI (rn tx 3 (i + 1) 0).2) = _ := s1
  rw [f_X8_reads_J104, lt_v, nI_1, if_pos rfl, e1', Option.bind_some]
  unfold rd
  rw [if_pos c]
  by_cases d1 : (rn tx 3 (i + 1) 0).2 = i + 1
  · rw [if_pos d1, if_pos d1, if_pos rfl, d1]
    exact ⟨_, rfl, rfl, Or.inl ⟨rfl, rfl⟩⟩
  · rw [if_neg d1, if_neg d1, if_neg n10, if_neg n10, s1', Option.bind_some]
    by_cases d2 : chT tx (rn tx 3 (i + 1) 0).2 = 44
    · rw [if_pos d2, if_pos d2, if_neg n10, e2', Option.bind_some]
      by_cases d3 : (rn tx 3 ((rn tx 3 (i + 1) 0).2 + 1) 0).2 = (rn tx 3 (i + 1) 0).2 + 1
      · rw [if_pos d3, if_pos d3, if_pos rfl, d3]
        exact ⟨_, rfl, rfl, Or.inl ⟨rfl, rfl⟩⟩
      · rw [if_neg d3, if_neg d3, if_neg n10, r_J154 h (by omega)]
        by_cases d4 : chT tx (rn tx 3 ((rn tx 3 (i + 1) 0).2 + 1) 0).2 = 59
        · rw [if_pos d4, if_pos d4]
          exact ⟨_, rfl, rfl, Or.inr ⟨_, rfl, rfl, rfl, b1, b2, Or.inl ⟨c, (u2 0 (by decide)).trans f1, f2⟩⟩⟩
        · rw [if_neg d4, if_neg d4]
          exact ⟨_, rfl, rfl, Or.inl ⟨rfl, rfl⟩⟩
    · rw [if_neg d2, if_neg d2, if_pos rfl]
      exact ⟨_, rfl, rfl, Or.inl ⟨rfl, rfl⟩⟩
theorem r_none {tx : List Nat} {Tx : Nat → Int32} {typed : Int32} (h : TX tx Tx typed) {i : Nat} (hi : i < 1000) (c : chT tx i = 112 ∨ chT tx i = 115) (told : Nat → Int32) : ∃ R, f_X8_reads_J104 Tx typed 0 1 told (nI i) (nI (chT tx i)) = some R ∧ rdK (rd tx i) R.1 R.2.2.1 R.2.2.2 (R.2.1 0) (R.2.1 1) := by
  have s1 := r_sign h (i := i + 1) (c := 59) (by omega) (by decide) (by decide)
  have s1' : f_X8_sign (59 : Int32) Tx typed (nI (i + 1)) = _ := s1
  rw [f_X8_reads_J104, lt_v, nI_1, if_neg n10, s1', Option.bind_some]
  unfold rd
  rw [if_neg (show ¬ (chT tx i = 98 ∨ chT tx i = 102 ∨ chT tx i = 103) by omega), if_pos c]
  by_cases d1 : chT tx (i + 1) = 59
  · rw [if_pos d1, if_pos d1, gd_t (Or.inr rfl)]
    exact ⟨_, rfl, rfl, Or.inr ⟨_, rfl, rfl, rfl, Nat.zero_le _, Nat.zero_le _, Or.inr (Or.inr c)⟩⟩
  · rw [if_neg d1, if_neg d1, gd_t (Or.inl rfl)]
    exact ⟨_, rfl, rfl, Or.inl ⟨rfl, rfl⟩⟩
theorem r_one {tx : List Nat} {Tx : Nat → Int32} {typed : Int32} (h : TX tx Tx typed) {i : Nat} (hi : i < 1000) (c : chT tx i = 119) (told : Nat → Int32) : ∃ R, f_X8_reads_J104 Tx typed 0 0 told (nI i) (nI (chT tx i)) = some R ∧ rdK (rd tx i) R.1 R.2.2.1 R.2.2.2 (R.2.1 0) (R.2.1 1) := by
  have g1 := rn_ge tx 3 (i + 1) 0
  have b1 := rn3 tx (i + 1)
  obtain ⟨t1, e1, f1, u1⟩ := r_num h (w := 0) (i := i + 1) (by decide) (by omega) told
  have e1' : f_X8_number (0 : Int32) Tx told typed (nI (i + 1)) = _ := e1
  rw [f_X8_reads_J104, lt_v, nI_1, if_pos rfl, e1', Option.bind_some]
  unfold rd
  rw [if_neg (show ¬ (chT tx i = 98 ∨ chT tx i = 102 ∨ chT tx i = 103) by omega), if_neg (show ¬ (chT tx i = 112 ∨ chT tx i = 115) by omega), if_pos c]
  by_cases d1 : (rn tx 3 (i + 1) 0).2 = i + 1
  · rw [if_pos d1, if_pos d1, if_pos rfl, d1]
    exact ⟨_, rfl, rfl, Or.inl ⟨rfl, rfl⟩⟩
  · rw [if_neg d1, if_neg d1, if_neg n10, if_pos rfl, r_J154 h (by omega)]
    by_cases d2 : chT tx (rn tx 3 (i + 1) 0).2 = 59
    · rw [if_pos d2, if_pos d2]
      exact ⟨_, rfl, rfl, Or.inr ⟨_, rfl, rfl, rfl, b1, Nat.zero_le _, Or.inr (Or.inl ⟨c, f1⟩)⟩⟩
    · rw [if_neg d2, if_neg d2]
      exact ⟨_, rfl, rfl, Or.inl ⟨rfl, rfl⟩⟩
theorem r_rd {tx : List Nat} {Tx : Nat → Int32} {typed : Int32} (h : TX tx Tx typed) {i : Nat} (hi : i < tx.length) (told : Nat → Int32) (z : Int32) : ∃ R, f_X8_reads Tx told typed (nI i) z = some R ∧ rdK (rd tx i) R.1 R.2.2.1 R.2.2.2 (R.2.1 0) (R.2.1 1) := by
  have hlen := h.2.1
  obtain ⟨e1, e2, e3⟩ := chT_in h hi
  have ne : ∀ n : Nat, n < 2 ^ 31 → chT tx i ≠ n → ¬ nI (chT tx i) = nI n := fun n hn q z => q ((nI_eq (by omega) hn).mp z)
  have e := r_isAt h (i := i) (a := 33) (b := 126) (by omega) (by decide) (by decide) (by decide)
  have e' : f_X8_isAt (33 : Int32) (126 : Int32) Tx typed (nI i) = _ := e
  have no : (¬ (chT tx i = 98 ∨ chT tx i = 102 ∨ chT tx i = 103)) → ¬ (chT tx i = 112 ∨ chT tx i = 115) → ¬ chT tx i = 119 → rd tx i = (none, i) := fun q1 q2 q3 => by
    unfold rd
    rw [if_neg q1, if_neg q2, if_neg q3]
  rw [f_X8_reads, e', Option.bind_some]
  by_cases c0 : 33 ≤ chT tx i ∧ chT tx i ≤ 126
  · rw [if_pos c0, if_neg n10, gd_t (nI_in (by omega) (by decide)), v_cl (by omega), e1, f_X8_reads_J25, f_X8_reads_J55, f_X8_reads_J60, f_X8_reads_J60, f_X8_reads_J79, f_X8_reads_J79, f_X8_reads_J84, f_X8_reads_J84, f_X8_reads_J84, f_X8_reads_J84]
    by_cases d115 : chT tx i = 115
    · rw [if_neg (show ¬ nI (chT tx i) = (102 : Int32) from ne 102 (by decide) (by omega)), if_neg (show ¬ nI (chT tx i) = (103 : Int32) from ne 103 (by decide) (by omega)), if_neg (show ¬ nI (chT tx i) = (98 : Int32) from ne 98 (by decide) (by omega)), if_pos (show nI (chT tx i) = (115 : Int32) from congrArg nI d115), if_pos rfl, if_neg n10]
      exact r_none h (by omega) (Or.inr d115) told
    by_cases d112 : chT tx i = 112
    · rw [if_neg (show ¬ nI (chT tx i) = (102 : Int32) from ne 102 (by decide) (by omega)), if_neg (show ¬ nI (chT tx i) = (103 : Int32) from ne 103 (by decide) (by omega)), if_neg (show ¬ nI (chT tx i) = (98 : Int32) from ne 98 (by decide) (by omega)), if_neg (show ¬ nI (chT tx i) = (115 : Int32) from ne 115 (by decide) d115), if_pos (show nI (chT tx i) = (112 : Int32) from congrArg nI d112), if_pos rfl, if_neg n10]
      exact r_none h (by omega) (Or.inl d112) told
    have x115 : ¬ nI (chT tx i) = (115 : Int32) := ne 115 (by decide) d115
    have x112 : ¬ nI (chT tx i) = (112 : Int32) := ne 112 (by decide) d112
    by_cases d102 : chT tx i = 102
    · rw [if_pos (show nI (chT tx i) = (102 : Int32) from congrArg nI d102), if_neg x115, if_neg x112, if_neg n10]
      exact r_two h (by omega) (Or.inr (Or.inl d102)) told
    rw [if_neg (show ¬ nI (chT tx i) = (102 : Int32) from ne 102 (by decide) d102)]
    by_cases d103 : chT tx i = 103
    · rw [if_pos (show nI (chT tx i) = (103 : Int32) from congrArg nI d103), if_neg x115, if_neg x112, if_neg n10]
      exact r_two h (by omega) (Or.inr (Or.inr d103)) told
    rw [if_neg (show ¬ nI (chT tx i) = (103 : Int32) from ne 103 (by decide) d103)]
    by_cases d98 : chT tx i = 98
    · rw [if_pos (show nI (chT tx i) = (98 : Int32) from congrArg nI d98), if_neg x115, if_neg x112, if_neg n10]
      exact r_two h (by omega) (Or.inl d98) told
    rw [if_neg (show ¬ nI (chT tx i) = (98 : Int32) from ne 98 (by decide) d98), if_neg x115, if_neg x112, if_pos rfl, if_pos rfl]
    by_cases d119 : chT tx i = 119
    · rw [if_pos (show nI (chT tx i) = (119 : Int32) from congrArg nI d119)]
      exact r_one h (by omega) d119 told
    · rw [if_neg (show ¬ nI (chT tx i) = (119 : Int32) from ne 119 (by decide) d119), no (by omega) (by omega) d119]
      exact ⟨_, rfl, rfl, Or.inl ⟨rfl, rfl⟩⟩
  · rw [if_neg c0, if_pos rfl, no (by omega) (by omega) (by omega), f_X8_reads_J25, if_neg (by decide), if_neg (by decide), if_neg (by decide), f_X8_reads_J60, if_neg (by decide), if_neg (by decide), f_X8_reads_J84, if_pos rfl, if_pos rfl, if_neg (by decide)]
    exact ⟨_, rfl, rfl, Or.inl ⟨rfl, rfl⟩⟩
