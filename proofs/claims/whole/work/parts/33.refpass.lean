/-! seconds pass in the reference -/
theorem tmz_s (t m : Nat) : tmz t (m + 1) = (if (t + 1) % 10 = 0 then 1 else 0) + tmz (t + 1) m := by
  unfold tmz
  split <;> omega
theorem tmz_0 (t : Nat) : tmz t 0 = 0 := by unfold tmz; omega
theorem r_pin {r4 : Int32 → Int32 → (Nat → Int32) → Option (Int32 × (Nat → Int32))} {y1 y3 : Int32} {fu s b t w : Nat} {S : Nat → Int32} (hb : b < 2) (h0 : S 0 = nI t) (ht : t < 2 ^ 30) (c : t % 10 = 0) (hw : S (13 + 4 * b + 1) = nI w) (hw2 : w < 2 ^ 30) : f_X8_passes_L22 r4 y1 y3 (fu + 1) (nI s) (nI b) S = f_X8_passes_L22 r4 y1 y3 fu (nI (s + fl w)) (nI (b + 1)) (upd S (13 + 4 * b + 1) (nI (w - fl w))) := by
  rw [f_X8_passes_L22, fa_lit 2, if_neg (nI_ge (by omega) (by omega)), cN (n := 0) (by decide), h0, fa_lit 10, pk_rem (by omega) (by decide) (by decide), c, if_pos nI_0, fa_lit 1, r_ofBurr hb (by decide), hw]
  simp only [Option.bind_some]
  rw [r_fall (by omega)]
  simp only [Option.bind_some, lt_v]
  rw [fa_lit 13, fa_lit 4, pk_mul, nI_add, nI_add, gd_t (nI_in (by omega) (by decide)), gd_t (nI_in (by omega) (by decide)), v_cl (by omega), hw, pk_sub (fl_le w), nI_add, nI_add]
theorem r_passes_L {n : Nat} (hn : n < 2 ^ 20) : ∀ (m k s t w0 w1 fuel : Nat) (S : Nat → Int32), k + m = n → m < fuel → S 0 = nI t → S 14 = nI w0 → S 18 = nI w1 → t + m < 2 ^ 30 → w0 ≤ 300 → w1 ≤ 300 →
    ∃ S', f_X8_passes_L4 (nI n) fuel (nI s) (nI k) S = some (nI (s + (w0 - cl (tmz t m) w0) + (w1 - cl (tmz t m) w1)), S') ∧ S' 0 = nI (t + m) ∧ S' 14 = nI (cl (tmz t m) w0) ∧ S' 18 = nI (cl (tmz t m) w1) ∧ ∀ i, i ≠ 0 → i ≠ 14 → i ≠ 18 → S' i = S i := by
  intro m
  induction m with
  | zero =>
    intro k s t w0 w1 fuel S hk hf h0 h14 h18 ht hw0 hw1
    obtain ⟨fu, rfl⟩ : ∃ fu, fuel = fu + 1 := ⟨fuel - 1, by omega⟩
    rw [f_X8_passes_L4, if_pos (nI_le (by omega) (by omega)), tmz_0]
    refine ⟨S, ?_, h0, h14, h18, fun i _ _ _ => rfl⟩
    show some (nI s, S) = some (nI (s + (w0 - w0) + (w1 - w1)), S)
    rw [Nat.sub_self, Nat.sub_self]
    rfl
  | succ m ih =>
    intro k s t w0 w1 fuel S hk hf h0 h14 h18 ht hw0 hw1
    obtain ⟨fu, rfl⟩ : ∃ fu, fuel = fu + 1 := ⟨fuel - 1, by omega⟩
    rw [f_X8_passes_L4, if_neg (nI_ge (by omega) (by omega)), cN (n := 0) (by decide), h0]
    simp only [lt_v]
    rw [nI_1]
    have l0 := fl_le w0
    have l1 := fl_le w1
    have hFU : FU = 19997 + 1 + 1 + 1 := rfl
    by_cases c : (t + 1) % 10 = 0
    · have e14 : upd S 0 (nI (t + 1)) (13 + 4 * 0 + 1) = nI w0 := (pk_un (by decide)).trans h14
      have e18 : upd (upd S 0 (nI (t + 1))) (13 + 4 * 0 + 1) (nI (w0 - fl w0)) (13 + 4 * 1 + 1) = nI w1 := ((pk_un (by decide)).trans (pk_un (by decide))).trans h18
      have e0 : upd (upd S 0 (nI (t + 1))) (13 + 4 * 0 + 1) (nI (w0 - fl w0)) 0 = nI (t + 1) := (pk_un (by decide)).trans pk_us
      obtain ⟨S', a1, a2, a3, a4, a5⟩ := ih (k + 1) (s + fl w0 + fl w1) (t + 1) (w0 - fl w0) (w1 - fl w1) fu (upd (upd (upd S 0 (nI (t + 1))) (13 + 4 * 0 + 1) (nI (w0 - fl w0))) (13 + 4 * 1 + 1) (nI (w1 - fl w1))) (by omega) (by omega) ((pk_un (by decide)).trans e0) ((pk_un (by decide)).trans pk_us) pk_us (by omega) (by omega) (by omega)
      have hz : tmz t (m + 1) = tmz (t + 1) m + 1 := by rw [tmz_s, if_pos c]; omega
      have c0 := cl_le (tmz (t + 1) m) (w0 - fl w0)
      have c1 := cl_le (tmz (t + 1) m) (w1 - fl w1)
      refine ⟨S', ?_, ?_, ?_, ?_, ?_⟩
      · rw [hFU, ← nI_0, r_pin (b := 0) (by decide) pk_us (by omega) c e14 (by omega), r_pin (b := 1) (by decide) e0 (by omega) c e18 (by omega), f_X8_passes_L22, if_pos (by rw [fa_L]; exact nI_le (by omega) (by omega)), f_X8_passes_J82, lt_v, nI_1, a1, hz]
        refine so_inj (Prod.ext (nI_inj ?_) rfl)
        show _ = s + (w0 - cl (tmz (t + 1) m) (w0 - fl w0)) + (w1 - cl (tmz (t + 1) m) (w1 - fl w1))
        omega
      · rw [a2]; exact nI_inj (by omega)
      · rw [a3, hz]; rfl
      · rw [a4, hz]; rfl
      · intro i i0 i1 i2
        exact (a5 i i0 i1 i2).trans ((pk_un i2).trans ((pk_un i1).trans (pk_un i0)))
    · obtain ⟨S', a1, a2, a3, a4, a5⟩ := ih (k + 1) s (t + 1) w0 w1 fu (upd S 0 (nI (t + 1))) (by omega) (by omega) pk_us ((pk_un (by decide)).trans h14) ((pk_un (by decide)).trans h18) (by omega) hw0 hw1
      have hz : tmz t (m + 1) = tmz (t + 1) m := by rw [tmz_s, if_neg c]; omega
      refine ⟨S', ?_, ?_, ?_, ?_, ?_⟩
      · rw [hFU, f_X8_passes_L22, if_neg (by decide), cN (n := 0) (by decide), pk_us, fa_lit 10, pk_rem (by omega) (by decide) (by decide), if_neg (nI_ne0 (by omega) (by omega)), f_X8_passes_J82, lt_v, nI_1, a1, hz]
      · rw [a2]; exact nI_inj (by omega)
      · rw [a3, hz]
      · rw [a4, hz]
      · intro i i0 i1 i2
        exact (a5 i i0 i1 i2).trans (pk_un i0)
theorem r_passes {n t w0 w1 : Nat} {S : Nat → Int32} (hn : n < 19999) (h0 : S 0 = nI t) (h14 : S 14 = nI w0) (h18 : S 18 = nI w1) (ht : t < 2 ^ 29) (hw0 : w0 ≤ 300) (hw1 : w1 ≤ 300) :
    ∃ S', f_X8_passes (nI n) S = some (nI (w0 + w1 - cl (tmz t n) w0 - cl (tmz t n) w1), S') ∧ S' 0 = nI (t + n) ∧ S' 14 = nI (cl (tmz t n) w0) ∧ S' 18 = nI (cl (tmz t n) w1) ∧ ∀ i, i ≠ 0 → i ≠ 14 → i ≠ 18 → S' i = S i := by
  obtain ⟨S', a1, a2⟩ := r_passes_L (n := n) (by omega) n 0 0 t w0 w1 FU S (by omega) (by show n < 20000; omega) h0 h14 h18 (by omega) hw0 hw1
  have c0 := cl_le (tmz t n) w0
  have c1 := cl_le (tmz t n) w1
  refine ⟨S', ?_, a2⟩
  rw [f_X8_passes, ← nI_0, a1]
  exact so_inj (Prod.ext (nI_inj (by show 0 + (w0 - _) + (w1 - _) = _; omega)) rfl)
/-! the past -/
def PR (hs : List Sp) (P : Nat → Int32) (pasts : Int32) : Prop := pasts = nI hs.length ∧ hs.length ≤ 4 ∧ ∀ (j : Nat) (σ : Sp), hs.reverse[j]? = some σ → MR σ (fun k => P (631 * j + k))
def KH (hs : List Sp) (B : Nat) : Prop := ∀ σ ∈ hs, KK σ B
theorem r_chL59 {S : Nat → Int32} {n : Nat} (hn : n < 4) : ∀ (m i fuel : Nat) (P : Nat → Int32), i + m = 631 → m < fuel → ∃ P', f_X8_changes_L59 S 0 fuel (nI i) P (nI n) = some (P', nI (n + 1)) ∧ (∀ k, i ≤ k → k < 631 → P' (631 * n + k) = S k) ∧ ∀ k, (k < 631 * n + i ∨ 631 * n + 631 ≤ k) → P' k = P k := by
  intro m
  induction m with
  | zero =>
    intro i fuel P hi hf
    obtain ⟨fu, rfl⟩ : ∃ fu, fuel = fu + 1 := ⟨fuel - 1, by omega⟩
    rw [f_X8_changes_L59, if_pos (by rw [fa_L]; exact nI_le (by omega) (by omega)), lt_v, nI_1]
    exact ⟨P, rfl, fun k h1 h2 => absurd h2 (by omega), fun k _ => rfl⟩
  | succ m ih =>
    intro i fuel P hi hf
    obtain ⟨fu, rfl⟩ : ∃ fu, fuel = fu + 1 := ⟨fuel - 1, by omega⟩
    obtain ⟨P', a1, a2, a3⟩ := ih (i + 1) fu (upd P (631 * n + i) (S i)) (by omega) (by omega)
    refine ⟨P', ?_, ?_, ?_⟩
    · rw [f_X8_changes_L59, if_neg (by rw [fa_L]; exact nI_ge (by omega) (by decide)), gd_t (nI_in (by omega) (by decide)), v_cl (by omega)]
      simp only [lt_v]
      rw [fa_lit 631, pk_mul, nI_add, gd_t (nI_in (by omega) (by decide)), v_cl (by omega), nI_1, a1]
    · intro k h1 h2
      by_cases e : k = i
      · subst e
        rw [a3 _ (Or.inl (by omega)), pk_us]
      · exact a2 k (by omega) h2
    · intro k hk
      rw [a3 k (by omega), pk_un (by omega)]
theorem r_chL18 {S : Nat → Int32} {pasts : Int32} : ∀ (m i fuel : Nat) (P : Nat → Int32), i + m = 1893 → m < fuel → ∃ P', f_X8_changes_L18 S 0 fuel (nI i) P pasts = f_X8_changes_J57 S 0 P' (pasts - 1) ∧ (∀ k, i ≤ k → k < 1893 → P' k = P (k + 631)) ∧ ∀ k, (k < i ∨ 1893 ≤ k) → P' k = P k := by
  intro m
  induction m with
  | zero =>
    intro i fuel P hi hf
    obtain ⟨fu, rfl⟩ : ∃ fu, fuel = fu + 1 := ⟨fuel - 1, by omega⟩
    rw [f_X8_changes_L18, if_pos (by rw [fa_L]; exact nI_le (by omega) (by omega)), lt_v]
    exact ⟨P, rfl, fun k h1 h2 => absurd h2 (by omega), fun k _ => rfl⟩
  | succ m ih =>
    intro i fuel P hi hf
    obtain ⟨fu, rfl⟩ : ∃ fu, fuel = fu + 1 := ⟨fuel - 1, by omega⟩
    obtain ⟨P', a1, a2, a3⟩ := ih (i + 1) fu (upd P i (P (i + 631))) (by omega) (by omega)
    refine ⟨P', ?_, ?_, ?_⟩
    · rw [f_X8_changes_L18, if_neg (by rw [fa_L]; exact nI_ge (by omega) (by decide)), fa_lit 631, nI_add, gd_t (nI_in (by omega) (by decide)), v_cl (by omega)]
      simp only [lt_v]
      rw [gd_t (nI_in (by omega) (by decide)), v_cl (by omega), nI_1, a1]
    · intro k h1 h2
      by_cases e : k = i
      · subst e
        rw [a3 _ (Or.inl (by omega)), pk_us]
      · rw [a2 k (by omega) h2, pk_un (by omega)]
    · intro k hk
      rw [a3 k (by omega), pk_un (by omega)]
theorem r_changes1 (S P : Nat → Int32) (pasts : Int32) : f_X8_changes S P pasts 1 = some (P, pasts) := by
  rw [f_X8_changes, if_neg (by decide)]
theorem r_changes {σ : Sp} {hs : List Sp} {B : Nat} {S P : Nat → Int32} {pasts : Int32} (h : PR hs P pasts) (hm : MR σ S) (hk : KK σ B) (hK : KH hs B) : ∃ P' pasts', f_X8_changes S P pasts 0 = some (P', pasts') ∧ PR ((σ :: hs).take 4) P' pasts' := by
  obtain ⟨rfl, h4, hj⟩ := h
  rw [f_X8_changes, if_pos rfl]
  by_cases c : hs.length = 4
  · obtain ⟨P1, a1, a2, a3⟩ := r_chL18 (S := S) (pasts := nI 4) 1893 0 FU P (by omega) (by show 1893 < 20000; omega)
    obtain ⟨P2, b1, b2, b3⟩ := r_chL59 (S := S) (n := 3) (by decide) 631 0 FU P1 (by omega) (by show 631 < 20000; omega)
    refine ⟨P2, nI 4, ?_, ?_⟩
    · rw [c, if_pos (show nI 4 = (4 : Int32) from rfl)]
      show f_X8_changes_L18 S 0 FU (nI 0) P (nI 4) = _
      rw [a1, f_X8_changes_J57]
      exact b1
    · match hs, c with
      | [s0, s1, s2, s3], _ =>
        refine ⟨rfl, (show 4 ≤ 4 from Nat.le_refl 4), ?_⟩
        intro j τ hτ
        have hj4 : j < 4 := by
          rcases Nat.lt_or_ge j 4 with q | q
          · exact q
          · rw [List.getElem?_eq_none (by exact q)] at hτ; cases hτ
        rcases (show j = 0 ∨ j = 1 ∨ j = 2 ∨ j = 3 by omega) with rfl | rfl | rfl | rfl
        · cases hτ
          refine (hj 1 s2 rfl).of (hK s2 (by simp)) (fun i hi => ?_)
          rw [b3 _ (Or.inl (by omega)), a2 _ (by omega) (by omega)]
          show _ = P (631 * 1 + i)
          exact congrArg P (by omega)
        · cases hτ
          refine (hj 2 s1 rfl).of (hK s1 (by simp)) (fun i hi => ?_)
          rw [b3 _ (Or.inl (by omega)), a2 _ (by omega) (by omega)]
          show _ = P (631 * 2 + i)
          exact congrArg P (by omega)
        · cases hτ
          refine (hj 3 s0 rfl).of (hK s0 (by simp)) (fun i hi => ?_)
          rw [b3 _ (Or.inl (by omega)), a2 _ (by omega) (by omega)]
          show _ = P (631 * 3 + i)
          exact congrArg P (by omega)
        · cases hτ
          exact hm.of hk (fun i hi => b2 i (by omega) (by omega))
  · obtain ⟨P2, b1, b2, b3⟩ := r_chL59 (S := S) (n := hs.length) (by omega) 631 0 FU P (by omega) (by show 631 < 20000; omega)
    refine ⟨P2, nI (hs.length + 1), ?_, ?_⟩
    · rw [if_neg (show ¬ nI hs.length = (4 : Int32) from fun q => c ((nI_eq (b := 4) (by omega) (by decide)).mp q)), f_X8_changes_J57]
      exact b1
    · rw [List.take_of_length_le (by show hs.length + 1 ≤ 4; omega)]
      refine ⟨rfl, by show hs.length + 1 ≤ 4; omega, ?_⟩
      intro j τ hτ
      rw [List.reverse_cons] at hτ
      rcases Nat.lt_or_ge j hs.length with q | q
      · rw [List.getElem?_append_left (by rw [List.length_reverse]; exact q)] at hτ
        have hm2 : τ ∈ hs := List.mem_reverse.mp (List.mem_of_getElem? hτ)
        refine (hj j τ hτ).of (hK τ hm2) (fun i hi => b3 _ (Or.inl ?_))
        have : 631 * (j + 1) ≤ 631 * hs.length := Nat.mul_le_mul (Nat.le_refl _) q
        omega
      · rw [List.getElem?_append_right (by rw [List.length_reverse]; exact q), List.length_reverse] at hτ
        have e : j - hs.length = 0 := by
          rcases Nat.eq_zero_or_pos (j - hs.length) with z | z
          · exact z
          · rw [List.getElem?_eq_none (by show 1 ≤ _; omega)] at hτ; cases hτ
        rw [e] at hτ
        cases hτ
        have ej : j = hs.length := by omega
        subst ej
        exact hm.of hk (fun i hi => b2 i (by omega) (by omega))
