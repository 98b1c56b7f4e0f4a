/-! count, undo, type, clearText -/
theorem q_count {σ : Sp} {B nw n0 n1 : Nat} {S st : Nat → Int32} {pt qt ut sm se fi gr br pu nr : Int32} (hpt : pt = nI (tot (v_lo σ))) (hqt : qt = nI (tot (v_ch σ))) (hut : ut = nI (tot (v_ba σ))) (hsm : sm = v_mk σ) (hst : stR (v_st σ) st) (hse : se = nI (v_se σ)) (hfi : fi = v_fi σ) (hgr : gr = v_gr σ) (hbr : br = v_br σ) (hpu : pu = v_pu σ) (hnr : nr = v_nr σ) (hm : MR σ S) (hk : KK σ B) (x1 : Int32) : ∃ r, f_X7_count x1 nw (nI n0) (nI n1) pt qt ut sm st se fi gr br pu nr = some r ∧ f_X8_count x1 S (nI n0) (nI n1) = some r := by
  obtain ⟨m1, m2, m3, m4, m5, m6, m7, m8, m9, m10, m11, m12, m13, m14⟩ := hm
  obtain ⟨k1, k2, k3, k4, k5, k6, k7, k8, k9, k10, k11, k12, k13, k14⟩ := hk
  have l1 := len_tot k5
  have l2 := len_tot k8
  have ec : f_X8_amounts (34 : Int32) (35 : Int32) S = some (nI (tot (v_ch σ))) := r_amounts (b := 34) m4 (okP_of k5 (by omega)) (by omega)
  have eb : f_X8_amounts (145 : Int32) (146 : Int32) S = some (nI (tot (v_ba σ))) := r_amounts (b := 145) m5 (okP_of k8 (by omega)) (by omega)
  have eh := r_hopper m1 k4
  subst hpt hqt hut hsm hse hfi hgr hbr hpu hnr
  rw [f_X7_count, f_X1_tell, f_X8_count, ec, eb, eh]
  by_cases c0 : x1 = 0
  · subst c0
    rw [if_neg (by decide), if_neg (by decide), if_pos rfl, if_pos rfl, gd_t (by decide)]
    exact ⟨_, rfl, congrArg some m9⟩
  by_cases c1 : x1 = 1
  · subst c1
    rw [if_neg (by decide), if_neg (by decide), if_neg c0, if_pos rfl, if_neg c0, if_pos rfl, gd_t (by decide)]
    exact ⟨_, rfl, congrArg some m10⟩
  by_cases c2 : x1 = 2
  · subst c2
    rw [if_neg (by decide), if_neg (by decide), if_neg c0, if_neg c1, if_pos rfl, if_neg c0, if_neg c1, if_pos rfl, gd_t (by decide)]
    exact ⟨_, rfl, congrArg some m11⟩
  by_cases c3 : x1 = 3
  · subst c3
    rw [if_neg (by decide), if_neg (by decide), if_neg c0, if_neg c1, if_neg c2, if_pos rfl, if_neg c0, if_neg c1, if_neg c2, if_pos rfl, gd_t (by decide)]
    exact ⟨_, rfl, congrArg some m12⟩
  by_cases c4 : x1 = 4
  · subst c4
    rw [if_neg (by decide), if_neg (by decide), if_neg c0, if_neg c1, if_neg c2, if_neg c3, if_pos rfl, if_neg c0, if_neg c1, if_neg c2, if_neg c3, if_pos rfl, gd_t (by decide)]
    exact ⟨_, rfl, congrArg some m13⟩
  by_cases c5 : x1 = 5
  · subst c5
    rw [if_neg (by decide), if_neg (by decide), if_neg c0, if_neg c1, if_neg c2, if_neg c3, if_neg c4, if_pos rfl, if_neg c0, if_neg c1, if_neg c2, if_neg c3, if_neg c4, if_pos rfl]
    exact ⟨_, rfl, rfl⟩
  by_cases c6 : x1 = 6
  · subst c6
    rw [if_neg (by decide), if_neg (by decide), if_neg c0, if_neg c1, if_neg c2, if_neg c3, if_neg c4, if_neg c5, if_pos rfl, if_neg c0, if_neg c1, if_neg c2, if_neg c3, if_neg c4, if_neg c5, if_pos rfl]
    exact ⟨_, rfl, rfl⟩
  by_cases c7 : x1 = 7
  · subst c7
    rw [if_neg (by decide), if_neg (by decide), if_neg c0, if_neg c1, if_neg c2, if_neg c3, if_neg c4, if_neg c5, if_neg c6, if_pos rfl, if_neg c0, if_neg c1, if_neg c2, if_neg c3, if_neg c4, if_neg c5, if_neg c6, if_pos rfl]
    exact ⟨_, rfl, rfl⟩
  by_cases c8 : x1 = 8
  · subst c8
    rw [if_neg (by decide), if_neg (by decide), if_neg c0, if_neg c1, if_neg c2, if_neg c3, if_neg c4, if_neg c5, if_neg c6, if_neg c7, if_pos rfl, if_neg c0, if_neg c1, if_neg c2, if_neg c3, if_neg c4, if_neg c5, if_neg c6, if_neg c7, if_pos rfl, gd_t (by decide)]
    exact ⟨_, rfl, congrArg some m7⟩
  by_cases c9 : x1 = 9
  · subst c9
    rw [if_neg (by decide), if_neg (by decide), if_neg c0, if_neg c1, if_neg c2, if_neg c3, if_neg c4, if_neg c5, if_neg c6, if_neg c7, if_neg c8, if_pos rfl, if_neg c0, if_neg c1, if_neg c2, if_neg c3, if_neg c4, if_neg c5, if_neg c6, if_neg c7, if_neg c8, if_pos rfl, gd_t (by decide)]
    exact ⟨_, rfl, congrArg some m14⟩
  by_cases c10 : x1 = 10
  · subst c10
    rw [if_pos rfl, if_neg c0, if_neg c1, if_neg c2, if_neg c3, if_neg c4, if_neg c5, if_neg c6, if_neg c7, if_neg c8, if_neg c9, if_pos rfl]
    exact ⟨_, rfl, rfl⟩
  by_cases c11 : x1 = 11
  · subst c11
    rw [if_neg c10, if_pos rfl, if_neg c0, if_neg c1, if_neg c2, if_neg c3, if_neg c4, if_neg c5, if_neg c6, if_neg c7, if_neg c8, if_neg c9, if_neg c10, if_pos rfl]
    exact ⟨_, rfl, rfl⟩
  rw [if_neg c10, if_neg c11, if_neg c0, if_neg c1, if_neg c2, if_neg c3, if_neg c4, if_neg c5, if_neg c6, if_neg c7, if_neg c8, if_neg c9, if_neg c0, if_neg c1, if_neg c2, if_neg c3, if_neg c4, if_neg c5, if_neg c6, if_neg c7, if_neg c8, if_neg c9, if_neg c10, if_neg c11, f_X1_tellSetting, r_in, Option.bind_some]
  by_cases d1 : x1 < (20 : Int32)
  · rw [if_pos d1, if_pos (Or.inl d1), if_pos rfl]
    exact ⟨_, rfl, rfl⟩
  · have h0 : ¬ x1 < 0 := fun q => d1 (by
      rw [Int32.lt_iff_toInt_lt] at q ⊢
      rw [Int32.toInt_zero] at q
      rw [fa_lit 20, nI_toInt (by decide)]
      omega)
    obtain ⟨j, hj, rfl⟩ := nI_of h0
    have hj1 : 20 ≤ j := Nat.not_lt.mp (fun q => d1 (nI_lt (b := 20) q (by decide)))
    rw [if_neg d1, show (20 : Int32) + (6 : Int32) = nI 26 from rfl]
    by_cases d2 : j < 26
    · have hi : j - 20 < 6 := by omega
      rw [if_pos (nI_lt d2 (by decide)), fa_lit 20, pk_sub hj1, gd_t (nI_in (by omega) (by decide)), v_cl (by omega), if_neg (show ¬ (nI j < nI 20 ∨ (25 : Int32) < nI j) from fun q => by rcases q with q | q; exact d1 q; exact nI_nlt (a := 25) (b := j) (by omega) (by decide) q), if_neg n10, fa_lit 7, nI_add, pk_sub (by omega), gd_t (nI_in (by omega) (by decide)), v_cl (by omega), hst (j - 20) hi]
      refine ⟨_, rfl, ?_⟩
      have := m8 (j - 20) hi
      rw [show 7 + (j - 20) = 7 + j - 20 by omega] at this
      rw [this]
    · rw [if_neg (nI_nlt (by omega) hj), if_pos (show nI j < 20 ∨ (25 : Int32) < nI j from Or.inr (nI_lt (a := 25) (by omega) hj)), if_pos rfl]
      exact ⟨_, rfl, rfl⟩
theorem r_undo_L {P : Nat → Int32} {n : Nat} (hn : n < 4) : ∀ (m i fuel : Nat) (S : Nat → Int32), i + m = 631 → m < fuel → ∃ S', f_X8_undo_L22 P fuel (nI i) S (nI n) = some (nI n, S', nI n) ∧ (∀ k, i ≤ k → k < 631 → S' k = P (631 * n + k)) ∧ ∀ k, k < i → S' k = S k := by
  intro m
  induction m with
  | zero =>
    intro i fuel S hi hf
    obtain ⟨fu, rfl⟩ : ∃ fu, fuel = fu + 1 := ⟨fuel - 1, by omega⟩
    rw [f_X8_undo_L22, if_pos (show (631 : Int32) ≤ nI i from nI_le (a := 631) (by omega) (by omega))]
    exact ⟨S, rfl, fun k h1 h2 => absurd h2 (by omega), fun k _ => rfl⟩
  | succ m ih =>
    intro i fuel S hi hf
    obtain ⟨fu, rfl⟩ : ∃ fu, fuel = fu + 1 := ⟨fuel - 1, by omega⟩
    obtain ⟨S', a1, a2, a3⟩ := ih (i + 1) fu (upd S i (P (631 * n + i))) (by omega) (by omega)
    refine ⟨S', ?_, ?_, ?_⟩
    · rw [f_X8_undo_L22, if_neg (show ¬ (631 : Int32) ≤ nI i from nI_ge (b := 631) (by omega) (by decide)), fa_lit 631, pk_mul, nI_add, gd_t (nI_in (by omega) (by decide)), lt_v, gd_t (nI_in (by omega) (by decide)), lt_v, lt_v, v_cl (by omega), v_cl (by omega), nI_1, a1]
    · intro k h1 h2
      by_cases e : k = i
      · subst e
        rw [a3 _ (by omega), pk_us]
      · exact a2 k (by omega) h2
    · intro k hk
      rw [a3 k (by omega), pk_un (by omega)]
theorem r_undo {σ : Sp} {hs : List Sp} {B : Nat} {S P : Nat → Int32} {pasts : Int32} (h : PR (σ :: hs) P pasts) (hk : KK σ B) : ∃ S', f_X8_undo S P pasts = some (nI hs.length, S', nI hs.length) ∧ MR σ S' ∧ PR hs P (nI hs.length) := by
  obtain ⟨rfl, h4, hj⟩ := h
  simp only [List.length_cons] at h4
  obtain ⟨S', a1, a2, -⟩ := r_undo_L (P := P) (n := hs.length) (by omega) 631 0 FU S (by omega) (by show 631 < 20000; omega)
  refine ⟨S', ?_, ?_, rfl, by omega, ?_⟩
  · rw [f_X8_undo, List.length_cons, if_neg (nI_ne0 (by omega) (by omega)), nI_pred, lt_v]
    exact a1
  · have hl : (σ :: hs).reverse[hs.length]? = some σ := by
      rw [List.reverse_cons, List.getElem?_append_right (by rw [List.length_reverse]; exact Nat.le_refl _), List.length_reverse, Nat.sub_self]
      rfl
    exact (hj hs.length σ hl).of hk (fun i hi => a2 i (Nat.zero_le _) (by omega))
  · intro j τ hτ
    refine hj j τ ?_
    have hlt : j < hs.reverse.length := (List.getElem?_eq_some_iff.mp hτ).1
    rw [List.reverse_cons, List.getElem?_append_left hlt]
    exact hτ
theorem r_undo0 (S P : Nat → Int32) : f_X8_undo S P (nI 0) = some (cNP, S, nI 0) := by
  rw [f_X8_undo, if_pos nI_0]
/-- the text, as either side has it -/
def TX (tx : List Nat) (sg : Nat → Int32) (n : Int32) : Prop := n = nI tx.length ∧ tx.length ≤ 60 ∧ (∀ p ∈ tx, 32 ≤ p ∧ p ≤ 126) ∧ ∀ k, k < tx.length → sg k = nI (tx.getD k 0)
theorem TX.snoc {tx : List Nat} {sg : Nat → Int32} {n : Int32} {c : Nat} (h : TX tx sg n) (hl : tx.length < 60) (hc : 32 ≤ c ∧ c ≤ 126) : TX (tx ++ [c]) (upd sg tx.length (nI c)) (nI (tx.length + 1)) := by
  refine ⟨by rw [List.length_append]; rfl, by rw [List.length_append, List.length_singleton]; omega, fun p hp => ?_, fun k hk => ?_⟩
  · rcases List.mem_append.mp hp with hp | hp
    · exact h.2.2.1 p hp
    · rw [List.mem_singleton] at hp
      subst hp
      exact hc
  · rw [List.length_append, List.length_singleton] at hk
    by_cases e : k = tx.length
    · subst e
      rw [pk_us, List.getD_eq_getElem?_getD, List.getElem?_append_right (Nat.le_refl _), Nat.sub_self]
      rfl
    · rw [pk_un e, h.2.2.2 k (by omega), List.getD_eq_getElem?_getD, List.getD_eq_getElem?_getD, List.getElem?_append_left (by omega)]
theorem TX.nil (sg : Nat → Int32) : TX [] sg 0 := ⟨rfl, by decide, fun p hp => (by cases hp), fun k hk => absurd hk (Nat.not_lt_zero k)⟩
theorem q_type {tx : List Nat} {sg Tx : Nat → Int32} {oL typed : Int32} (h1 : TX tx sg oL) (h2 : TX tx Tx typed) (x1 : Int32) : ∃ R R', f_X7_type x1 sg oL = some R ∧ f_X8_type x1 Tx typed = some R' ∧ R.1 = R'.1 ∧ ∃ tx', TX tx' R.2.1 R.2.2 ∧ TX tx' R'.2.1 R'.2.2 := by
  have hlen := h1.2.1
  rw [f_X7_type, f_X8_type, r_in, Option.bind_some]
  by_cases c : x1 < (32 : Int32) ∨ (126 : Int32) < x1
  · have e1 : (if x1 < (32 : Int32) then some ((-1000001 : Int32), sg, oL) else (if x1 ≤ (126 : Int32) then (f_X4_append ((x1.toUInt32 % 65536).toInt32) sg oL).bind fun q3 => some (q3.1, q3.2.1, q3.2.2) else some ((-1000001 : Int32), sg, oL))) = some ((-1000001 : Int32), sg, oL) := by
      by_cases d : x1 < (32 : Int32)
      · rw [if_pos d]
      · rw [if_neg d, if_neg (Int32.not_le.mpr (by rcases c with c | c; exact absurd c d; exact c))]
    rw [e1, if_pos c, if_pos rfl]
    exact ⟨_, _, rfl, rfl, rfl, tx, h1, h2⟩
  · have d1 : ¬ x1 < (32 : Int32) := fun q => c (Or.inl q)
    have d2 : ¬ (126 : Int32) < x1 := fun q => c (Or.inr q)
    have h0 : ¬ x1 < 0 := fun q => d1 (by
      rw [Int32.lt_iff_toInt_lt] at q ⊢
      rw [Int32.toInt_zero] at q
      rw [fa_lit 32, nI_toInt (by decide)]
      omega)
    obtain ⟨j, hj, rfl⟩ := nI_of h0
    have hj1 : 32 ≤ j := Nat.not_lt.mp (fun q => d1 (nI_lt (b := 32) q (by decide)))
    have hj2 : j ≤ 126 := Nat.not_lt.mp (fun q => d2 (nI_lt (a := 126) q hj))
    rw [if_neg d1, if_pos (Int32.not_lt.mp d2), if_neg c, if_neg n10, f_X4_append, pk_vc, pk_char, pk_tn (by omega), show j % 65536 = j by omega, h1.1, h2.1, if_neg (nI_pos (by omega)), fa_lit 60]
    by_cases d3 : tx.length = 60
    · rw [if_neg (nI_nlt (by omega) (by omega)), if_pos (by rw [d3])]
      refine ⟨_, _, rfl, rfl, rfl, tx, ?_, ?_⟩
      · rw [← h1.1]; exact h1
      · rw [← h2.1]; exact h2
    · rw [if_pos (nI_lt (by omega) (by decide)), if_neg (fun q => d3 ((nI_eq (by omega) (by decide)).mp q)), gd_t (nI_in (by omega) (by decide)), gd_t (nI_in (by omega) (by decide)), v_cl (by omega), lt_v, lt_v, lt_v, lt_v, nI_1]
      exact ⟨_, _, rfl, rfl, rfl, tx ++ [j], h1.snoc (by omega) ⟨hj1, hj2⟩, h2.snoc (by omega) ⟨hj1, hj2⟩⟩
/-! best -/
theorem ahead_mono (K : List Sh) (g i j : Nat) (h : aw (sk0 K i).2.1 g < aw (sk0 K j).2.1 g ∨ (aw (sk0 K i).2.1 g = aw (sk0 K j).2.1 g ∧ i < j)) : ∀ n, ahead K g i n + (if i < n then 1 else 0) ≤ ahead K g j n
  | 0 => by simp [ahead]
  | n + 1 => by
    have ih := ahead_mono K g i j h n
    rw [show ahead K g i (n + 1) = ahead K g i n + (if aw (sk0 K n).2.1 g < aw (sk0 K i).2.1 g ∨ (aw (sk0 K n).2.1 g = aw (sk0 K i).2.1 g ∧ n < i) then 1 else 0) from rfl, show ahead K g j (n + 1) = ahead K g j n + (if aw (sk0 K n).2.1 g < aw (sk0 K j).2.1 g ∨ (aw (sk0 K n).2.1 g = aw (sk0 K j).2.1 g ∧ n < j) then 1 else 0) from rfl]
    rcases Nat.lt_trichotomy i n with q | q | q
    · rw [if_pos q] at ih
      rw [if_pos (show i < n + 1 by omega)]
      split <;> split <;> omega
    · subst q
      rw [if_neg (Nat.lt_irrefl i)] at ih
      rw [if_pos (show i < i + 1 by omega)]
      split <;> omega
    · rw [if_neg (show ¬ i < n by omega)] at ih
      rw [if_neg (show ¬ i < n + 1 by omega)]
      split <;> split <;> omega
theorem ahead_ne {K : List Sh} {g i j : Nat} (hi : i < K.length) (hj : j < K.length) (h : i ≠ j) : ahead K g i K.length ≠ ahead K g j K.length := by
  by_cases c : aw (sk0 K i).2.1 g < aw (sk0 K j).2.1 g ∨ (aw (sk0 K i).2.1 g = aw (sk0 K j).2.1 g ∧ i < j)
  · have := ahead_mono K g i j c K.length
    rw [if_pos hi] at this
    omega
  · have := ahead_mono K g j i (by omega) K.length
    rw [if_pos hj] at this
    omega
theorem r_bestIn {r12 : Int32 → Int32 → Option Int32} {K : List Sh} {S : Nat → Int32} {g i : Nat} {x y2 : Int32} (h : shM K S) (hg : S 7 = nI g) (hg2 : g ≤ 600) (hi : i < K.length) : ∀ (m n fuel : Nat), n + m = K.length → m < fuel → f_X8_best_L51 r12 S x y2 (nI i) (nI (aw (sk0 K i).2.1 g)) fuel (nI (ahead K g i n)) (nI n) = r12 (if nI (ahead K g i K.length) = x then (sk0 K i).1 else y2) (nI (i + 1)) := by
  have h12 := h.2.1
  have hK : S (546 : Int32).toNatClampNeg = nI K.length := h.1
  have hai := aw_le (h.2.2.1 i hi) hg2
  intro m
  induction m with
  | zero =>
    intro n fuel hn hf
    obtain ⟨fu, rfl⟩ : ∃ fu, fuel = fu + 1 := ⟨fuel - 1, by omega⟩
    have e1 := (h.2.2.2 i hi).1
    rw [f_X8_best_L51, hK, if_pos (nI_le (by omega) (by omega)), show n = K.length by omega]
    by_cases q : nI (ahead K g i K.length) = x
    · rw [if_pos q, if_pos q, fa_lit 547, fa_lit 7, pk_mul, nI_add, gd_t (nI_in (by omega) (by decide)), v_cl (by omega), f_X8_best_J145, lt_v, nI_1, e1]
    · rw [if_neg q, if_neg q, f_X8_best_J145, lt_v, nI_1]
  | succ m ih =>
    intro n fuel hn hf
    obtain ⟨fu, rfl⟩ : ∃ fu, fuel = fu + 1 := ⟨fuel - 1, by omega⟩
    have hal := ahead_le K g i n
    have hn2 := h.2.2.1 n (by omega)
    have han := aw_le hn2 hg2
    have e1 := (h.2.2.2 n (by omega)).2.1
    have ih' := ih (n + 1) fu (by omega) (by omega)
    rw [show ahead K g i (n + 1) = ahead K g i n + (if aw (sk0 K n).2.1 g < aw (sk0 K i).2.1 g ∨ (aw (sk0 K n).2.1 g = aw (sk0 K i).2.1 g ∧ n < i) then 1 else 0) from rfl] at ih'
    rw [f_X8_best_L51, hK, if_neg (nI_ge (by omega) (by omega)), fa_lit 547, fa_lit 7, fa_lit 1, pk_mul, nI_add, nI_add, gd_t (nI_in (by omega) (by decide)), v_cl (by omega), e1, r_away hg (by omega) (by omega), Option.bind_some]
    simp only [f_X8_best_J108, f_X8_best_J112, f_X8_best_J113, lt_v]
    rw [nI_1, nI_1, show nI (ahead K g i n) + (0 : Int32) = nI (ahead K g i n) from Int32.add_zero _]
    by_cases q1 : aw (sk0 K n).2.1 g < aw (sk0 K i).2.1 g
    · rw [if_pos (nI_lt q1 (by omega))]
      rw [if_pos (Or.inl q1)] at ih'
      exact ih'
    · rw [if_neg (nI_nlt (by omega) (by omega))]
      by_cases q2 : aw (sk0 K n).2.1 g = aw (sk0 K i).2.1 g
      · rw [if_pos (congrArg nI q2)]
        by_cases q3 : n < i
        · rw [if_neg (nI_ge q3 (by omega))]
          rw [if_pos (Or.inr ⟨q2, q3⟩)] at ih'
          exact ih'
        · rw [if_pos (nI_le (by omega) (by omega))]
          rw [if_neg (by omega), Nat.add_zero] at ih'
          exact ih'
      · rw [if_neg (fun z => q2 ((nI_eq (by omega) (by omega)).mp z))]
        rw [if_neg (by omega), Nat.add_zero] at ih'
        exact ih'
/-- the last one from i on that stands at this place, else y -/
def lastAt (K : List Sh) (g : Nat) (x : Int32) : Nat → Nat → Int32 → Int32
  | 0, _, y => y
  | m + 1, i, y => lastAt K g x m (i + 1) (if nI (ahead K g i K.length) = x then (sk0 K i).1 else y)
theorem lastAt_no {K : List Sh} {g i0 : Nat} {x : Int32} (hlen : K.length ≤ 12) (hi0 : i0 < K.length) (h0 : nI (ahead K g i0 K.length) = x) : ∀ (m i : Nat) (y : Int32), i + m = K.length → i0 < i → lastAt K g x m i y = y
  | 0, _, _, _, _ => rfl
  | m + 1, i, y, hm, hi => by
    have a1 := ahead_le K g i K.length
    have a2 := ahead_le K g i0 K.length
    have hne : ¬ nI (ahead K g i K.length) = x := fun q => ahead_ne (g := g) hi0 (show i < K.length by omega) (by omega) ((nI_eq (by omega) (by omega)).mp (h0.trans q.symm))
    rw [lastAt, if_neg hne]
    exact lastAt_no hlen hi0 h0 m (i + 1) y (by omega) (by omega)
theorem last_best {K : List Sh} {g : Nat} {x : Int32} (hlen : K.length ≤ 12) : ∀ (m i : Nat), i + m = K.length → lastAt K g x m i (-1000004) = bestAt K g x m i
  | 0, _, _ => rfl
  | m + 1, i, hm => by
    rw [lastAt, bestAt]
    by_cases q : nI (ahead K g i K.length) = x
    · rw [if_pos q, if_pos q, lastAt_no hlen (show i < K.length by omega) q m (i + 1) _ (by omega) (by omega)]
    · rw [if_neg q, if_neg q]
      exact last_best hlen m (i + 1) (by omega)
theorem r_best_L {K : List Sh} {S : Nat → Int32} {g : Nat} {x : Int32} (h : shM K S) (hg : S 7 = nI g) (hg2 : g ≤ 600) : ∀ (m i fuel : Nat) (y : Int32), i + m = K.length → m < fuel → f_X8_best_L12 S x fuel y (nI i) = some (lastAt K g x m i y) := by
  have h12 := h.2.1
  have hK : S (546 : Int32).toNatClampNeg = nI K.length := h.1
  intro m
  induction m with
  | zero =>
    intro i fuel y hi hf
    obtain ⟨fu, rfl⟩ : ∃ fu, fuel = fu + 1 := ⟨fuel - 1, by omega⟩
    rw [f_X8_best_L12, hK, if_pos (nI_le (by omega) (by omega))]
    rfl
  | succ m ih =>
    intro i fuel y hi hf
    obtain ⟨fu, rfl⟩ : ∃ fu, fuel = fu + 1 := ⟨fuel - 1, by omega⟩
    have e1 := (h.2.2.2 i (by omega)).2.1
    have ht := h.2.2.1 i (by omega)
    have := r_bestIn (r12 := f_X8_best_L12 S x fu) (x := x) (y2 := y) h hg hg2 (show i < K.length by omega) K.length 0 FU (by omega) (by show _ < 20000; omega)
    have this' : f_X8_best_L51 (f_X8_best_L12 S x fu) S x y (nI i) (nI (aw (sk0 K i).2.1 g)) FU 0 0 = _ := this
    rw [f_X8_best_L12, hK, if_neg (nI_ge (by omega) (by omega)), fa_lit 547, fa_lit 7, fa_lit 1, pk_mul, nI_add, nI_add, gd_t (nI_in (by omega) (by decide)), v_cl (by omega), e1, r_away hg (by omega) (by omega), Option.bind_some, this', ih (i + 1) fu _ (by omega) (by omega)]
    rfl
theorem q_best {σ : Sp} {B nw : Nat} {S sF st : Nat → Int32} {sk : Int32} (hK : shR (v_K σ) sF sk) (hs : stR (v_st σ) st) (hm : MR σ S) (hk : KK σ B) (x1 : Int32) : ∃ r, f_X7_best x1 nw sF sk st = some r ∧ f_X8_best x1 S = some r := by
  obtain ⟨m1, m2, m3, m4, m5, m6, m7, m8, m9, m10, m11, m12, m13, m14⟩ := hm
  have k13 := hk.2.2.2.2.2.2.2.2.2.2.2.2.1
  have h12 := m6.2.1
  rw [f_X7_best, f_X8_best]
  by_cases c1 : 0 ≤ x1
  · have e0 : st (0 : Int32).toNatClampNeg = nI (v_st σ 0) := hs 0 (by decide)
    have := r_best_L (x := x1) m6 (m8 0 (by decide)) k13.2.1 (v_K σ).length 0 FU (-1000004) (by omega) (by show _ < 20000; omega)
    rw [last_best h12 _ _ (by omega)] at this
    rw [if_pos c1, if_pos c1, e0, p_number x1 hK k13.2.1, Option.bind_some]
    exact ⟨_, rfl, this⟩
  · rw [if_neg c1, if_neg c1]
    exact ⟨_, rfl, rfl⟩
