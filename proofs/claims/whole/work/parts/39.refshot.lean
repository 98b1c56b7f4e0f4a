/-! the reference's shot -/
theorem r_flowOf {v : Nat → Nat} {S : Nat → Int32} {p : Nat × Nat} (hs : stM v S) (hv : stK v) (h1 : p.1 < 512) (h2 : 40 ≤ p.2) (h3 : p.2 < 2404) : f_X8_flowOf (nI (enc p)) S = some (nI (flm v p.2)) := by
  have e1 := r_kindOf (p := p) h1 (by omega)
  have e2 := r_gapOf (p := p) h1 (by omega)
  have hh := hdn_le hv (p.2 % 2)
  have hg : 10 ≤ p.2 / 4 ∧ p.2 / 4 < 2 ^ 20 := by omega
  have ei : S (10 + p.2 % 2) = nI (hdn v (p.2 % 2)) := by
    unfold hdn
    rcases Nat.mod_two_eq_zero_or_one p.2 with q | q
    · rw [q, if_pos rfl]; exact hs 3 (by decide)
    · rw [q, if_neg (by decide)]; exact hs 4 (by decide)
  have hk : p.2 % 2 < 2 := Nat.mod_lt _ (by decide)
  unfold flm fw
  generalize p.2 % 2 = k at e1 hh ei hk ⊢
  generalize p.2 / 4 = g at e2 hg ⊢
  rw [f_X8_flowOf, e1, Option.bind_some, e2, fa_lit 10, nI_add, gd_t (nI_in (by omega) (by decide)), Option.bind_some, gd_t (nI_ne0 (by omega) (by omega)), v_cl (by omega), ei, fa_lit 1000, pk_mul, pk_div (by omega) (by omega) (by omega), if_neg (by omega)]
theorem r_time_L {v : Nat → Nat} {L : List (Nat × Nat)} {S : Nat → Int32} (h : rwM 145 L S) (hs : stM v S) (hv : stK v) (hok : okR L) (hmk : mkK L) (hT : tot L ≤ 400) (h0 : 0 < tot L) : ∀ (m i s fuel : Nat) (Lr : List (Nat × Nat)), Lr.length = m → i + m = L.length → (∀ k : Nat, k < m → lk Lr k = lk L (i + k)) → m < fuel → s + sumF v Lr ≤ 400 * 30000 → f_X8_timeNow_L4 S fuel (nI s) (nI i) = some (nI ((s + sumF v Lr) / tot L)) := by
  have hlen := len_tot hok
  have hokP := okP_of hok (by omega)
  have eb : f_X8_amounts (145 : Int32) (146 : Int32) S = some (nI (tot L)) := r_amounts (b := 145) h hokP (by omega)
  intro m
  induction m with
  | zero =>
    intro i s fuel Lr hL hi hk hf hb
    obtain ⟨fu, rfl⟩ : ∃ fu, fuel = fu + 1 := ⟨fuel - 1, by omega⟩
    have hL0 : Lr = [] := List.length_eq_zero_iff.mp hL
    subst hL0
    rw [f_X8_timeNow_L4, c145, h.1, if_pos (nI_le (by omega) (by omega)), eb, Option.bind_some, gd_t (nI_ne0 h0 (by omega))]
    simp only [sumF] at hb ⊢
    rw [pk_div (by omega) h0 (by omega), Nat.add_zero]
  | succ m ih =>
    intro i s fuel Lr hL hi hk hf hb
    obtain ⟨fu, rfl⟩ : ∃ fu, fuel = fu + 1 := ⟨fuel - 1, by omega⟩
    match Lr, hL with
    | p :: Lr, hL =>
      simp only [List.length_cons] at hL
      have h1 := hk 0 (by omega)
      rw [lk_0, Nat.add_zero] at h1
      have hp := hokP (lk L i) (lk_m (by omega))
      have hq := hmk (lk L i) (lk_m (by omega))
      have ih' := ih (i + 1) (s + p.1 * flm v p.2) fu Lr (by omega) (by omega) (fun k q => by
        have := hk (k + 1) (by omega)
        rw [lk_s] at this
        rw [this, show i + (k + 1) = i + 1 + k by omega]) (by omega) (by simp only [sumF] at hb; omega)
      have hg := nI_in (c := 146 + i) (N := 631) (by omega) (by decide)
      have hg' : ¬ (nI (146 + i) < 0 ∨ 631 ≤ 146 + i) := by
        have := hg
        rw [v_cl (by omega)] at this
        exact this
      rw [f_X8_timeNow_L4, c145, h.1, if_neg (nI_ge (by omega) (by omega)), fa_lit 146, nI_add, gd_t hg, v_cl (by omega), show S (146 + i) = nI (enc (lk L i)) from h.2 i (by omega), r_amountOf hp.2.1 hp.2.2, Option.bind_some, gd_t hg', r_flowOf hs hv hp.2.1 hq.1 hq.2, Option.bind_some, lt_v, lt_v, ← h1, pk_mul, nI_add, nI_1, ih']
      simp only [sumF, Nat.add_assoc]
theorem r_time {v : Nat → Nat} {L : List (Nat × Nat)} {S : Nat → Int32} (h : rwM 145 L S) (hs : stM v S) (hv : stK v) (hok : okR L) (hmk : mkK L) (hT : tot L ≤ 400) (h0 : 0 < tot L) : f_X8_timeNow S = some (nI (timeS v L)) := by
  have hlen := len_tot hok
  have hb := sumF_le hv L
  have := r_time_L h hs hv hok hmk hT h0 L.length 0 0 FU L rfl (by omega) (fun k _ => by rw [Nat.zero_add]) (by show _ < 20000; omega) (by omega)
  rw [Nat.zero_add] at this
  exact this
theorem sIf {b : Nat → Bool} {p : Nat × Nat} {k : Nat} (hk : k = 0 ∨ k = 1) (h : b p.2 = (k == 1)) (L : List (Nat × Nat)) : sumIf b (p :: L) = k * p.1 + sumIf b L := by
  show (if b p.2 = true then p.1 else 0) + sumIf b L = k * p.1 + sumIf b L
  rw [h]
  rcases hk with rfl | rfl
  · simp
  · simp
theorem r_L42 {L : List (Nat × Nat)} {S P : Nat → Int32} {runs pasts y1 : Int32} {T : Nat} (h : rwM 145 L S) (hok : okP L) (hlen : L.length ≤ 400) (hT : T ≤ 400) : ∀ (m i s1 s2 fuel : Nat) (Lr : List (Nat × Nat)), Lr.length = m → i + m = L.length → (∀ k : Nat, k < m → lk Lr k = lk L (i + k)) → m < fuel → s2 + sumIf isB Lr ≤ 400 → f_X8_shot_L42 runs y1 (nI T) fuel (nI s1) (nI s2) (nI i) S P pasts = f_X8_shot_J117 runs y1 (nI T) (nI (s1 + sumIf isK Lr)) (nI (if T < 2 * (s2 + sumIf isB Lr) then 1 else 0)) S P pasts := by
  intro m
  induction m with
  | zero =>
    intro i s1 s2 fuel Lr hL hi hk hf hb
    obtain ⟨fu, rfl⟩ : ∃ fu, fuel = fu + 1 := ⟨fuel - 1, by omega⟩
    have hL0 : Lr = [] := List.length_eq_zero_iff.mp hL
    subst hL0
    have e2 : sumIf isB [] = 0 := rfl
    have e1 : sumIf isK [] = 0 := rfl
    rw [e2] at hb ⊢
    rw [f_X8_shot_L42, c145, h.1, if_pos (nI_le (by omega) (by omega)), fa_lit 2, pk_mul, e1, Nat.add_zero, Nat.add_zero]
    by_cases c : T < 2 * s2
    · rw [if_neg (nI_ge c (by omega)), if_pos c]; rfl
    · rw [if_pos (nI_le (by omega) (by omega)), if_neg c]; rfl
  | succ m ih =>
    intro i s1 s2 fuel Lr hL hi hk hf hb
    obtain ⟨fu, rfl⟩ : ∃ fu, fuel = fu + 1 := ⟨fuel - 1, by omega⟩
    match Lr, hL with
    | p :: Lr, hL =>
      simp only [List.length_cons] at hL
      have h1 := hk 0 (by omega)
      rw [lk_0, Nat.add_zero] at h1
      have hp := hok (lk L i) (lk_m (by omega))
      rw [← h1] at hp
      have eK := sIf (b := isK) (p := p) (Nat.mod_two_eq_zero_or_one p.2) rfl Lr
      have eB := sIf (b := isB) (p := p) (Nat.mod_two_eq_zero_or_one (p.2 / 2)) rfl Lr
      rw [eB] at hb
      have ih' := ih (i + 1) (s1 + p.2 % 2 * p.1) (s2 + p.2 / 2 % 2 * p.1) fu Lr (by omega) (by omega) (fun k q => by
        have := hk (k + 1) (by omega)
        rw [lk_s] at this
        rw [this, show i + (k + 1) = i + 1 + k by omega]) (by omega) (by omega)
      have hg := nI_in (c := 146 + i) (N := 631) (by omega) (by decide)
      rw [f_X8_shot_L42, c145, h.1, if_neg (nI_ge (by omega) (by omega)), fa_lit 146, nI_add, gd_t hg, v_cl (by omega), show S (146 + i) = nI (enc p) from (h.2 i (by omega)).trans (by rw [h1]), lt_v, r_kindOf hp.2.1 hp.2.2, Option.bind_some, r_amountOf hp.2.1 hp.2.2, Option.bind_some, lt_v, r_burrIn hp.2.1 hp.2.2, Option.bind_some, Option.bind_some, lt_v, lt_v, pk_mul, pk_mul, nI_add, nI_add, nI_1, ih', eK, eB, Nat.add_assoc, Nat.add_assoc]
theorem r_L123 {runs y1 y2 y3 y5 pasts : Int32} {P : Nat → Int32} : ∀ (m fuel : Nat) (S : Nat → Int32), m ≤ 77 → m < fuel → ∃ S', f_X8_shot_L123 runs y1 y2 y3 y5 fuel (nI (m + 6)) S P pasts = f_X8_shot_L123 runs y1 y2 y3 y5 1 (nI 6) S' P pasts ∧ (∀ k, 7 ≤ k → k ≤ m + 6 → S' (547 + k) = S (547 + k - 7)) ∧ ∀ i, (i < 554 ∨ 547 + m + 6 < i) → S' i = S i := by
  intro m
  induction m with
  | zero =>
    intro fuel S hm hf
    obtain ⟨fu, rfl⟩ : ∃ fu, fuel = fu + 1 := ⟨fuel - 1, by omega⟩
    refine ⟨S, ?_, fun k h1 h2 => absurd h2 (by omega), fun i _ => rfl⟩
    have c : nI (0 + 6) < (7 : Int32) := by decide
    have c' : nI 6 < (7 : Int32) := by decide
    rw [f_X8_shot_L123, if_pos c, f_X8_shot_L123, if_pos c']
  | succ m ih =>
    intro fuel S hm hf
    obtain ⟨fu, rfl⟩ : ∃ fu, fuel = fu + 1 := ⟨fuel - 1, by omega⟩
    obtain ⟨S', a1, a2, a3⟩ := ih fu (upd S (547 + (m + 7)) (S (547 + m))) (by omega) (by omega)
    refine ⟨S', ?_, ?_, ?_⟩
    · have c : ¬ nI (m + 1 + 6) < (7 : Int32) := nI_nlt (a := m + 1 + 6) (b := 7) (by omega) (by omega)
      rw [f_X8_shot_L123, if_neg c, show m + 1 + 6 = m + 6 + 1 by omega, pk_m1, fa_lit 547, fa_lit 7, nI_add, pk_sub (by omega), gd_t (nI_in (by omega) (by decide)), lt_v, gd_t (nI_in (by omega) (by decide)), lt_v, lt_v, v_cl (by omega), v_cl (by omega), show 547 + (m + 6 + 1) - 7 = 547 + m by omega, show 547 + (m + 6 + 1) = 547 + (m + 7) by omega, a1]
    · intro k h1 h2
      by_cases e : k = m + 7
      · subst e
        rw [a3 _ (Or.inr (by omega)), pk_us]
        congr 1
      · rw [a2 k h1 (by omega), pk_un (by omega)]
    · intro i hi
      rw [a3 i (by omega), pk_un (by omega)]
theorem r_away {t g : Nat} {S : Nat → Int32} (h : S 7 = nI g) (ht : t < 2 ^ 30) (hg : g < 2 ^ 30) : f_X8_away (nI t) S = some (nI (aw t g)) := by
  have c7 : (7 : Int32).toNatClampNeg = 7 := rfl
  have := p_absI (a := t) (b := g) ht hg
  rw [f_X8_away, c7, h, lt_v, ← this]
  by_cases q : 0 ≤ nI t - nI g
  · rw [if_pos q, if_pos q]
  · rw [if_neg q, if_neg q, Int32.zero_sub]
theorem aw_le {t g : Nat} (ht : t ≤ 30000) (hg : g ≤ 600) : aw t g ≤ 30000 := by
  unfold aw
  split <;> omega
/-- the burrs behind a shot by burr b, ahead of its seconds -/
def jB0 (v : Nat → Nat) (t b : Nat) (b0 : Bu) : Bu := if b = 0 then buJ v t b0 else b0
def jB1 (v : Nat → Nat) (t b : Nat) (b1 : Bu) : Bu := if b = 0 then b1 else buJ v t b1
theorem r_J330 {v : Nat → Nat} {t b : Nat} {b0 b1 : Bu} {C P : Nat → Int32} {runs pasts : Int32} (z0 : Int32) (h0 : buM 13 b0 C) (h1 : buM 17 b1 C) (hs : stM v C) (hv : stK v) (ht : t ≤ 30000) (hb : b < 2) (k0 : buK b0) (k1 : buK b1) :
    ∃ F, f_X8_shot_J330 runs (nI t) (nI b) z0 (C 6) (nI 6) C P pasts = f_X8_shot_J374 runs (nI t) F P pasts ∧ buM 13 (jB0 v t b b0) F ∧ buM 17 (jB1 v t b b1) F ∧ F 6 = C 6 + z0 ∧ F 145 = 0 ∧ ∀ i, i ≠ 6 → i ≠ 145 → (i < 13 ∨ 21 ≤ i) → F i = C i := by
  have c12 : (12 : Int32).toNatClampNeg = 12 := rfl
  have c8 : (8 : Int32).toNatClampNeg = 8 := rfl
  obtain ⟨v1, v2, v3, v4, v5, v6, v7, v8, v9⟩ := id hv
  generalize hE : upd (upd C 6 (C 6 + z0)) 145 (0 : Int32) = E
  have eE : ∀ i, i ≠ 6 → i ≠ 145 → E i = C i := fun i i1 i2 => by rw [← hE, pk_un i2, pk_un i1]
  have e6 : E 6 = C 6 + z0 := by rw [← hE, pk_un (by decide), pk_us]
  have e145 : E 145 = 0 := by rw [← hE, pk_us]
  have e12 : E 12 = nI (v 5) := (eE 12 (by decide) (by decide)).trans (hs 5 (by decide))
  have e8 : E 8 = nI (v 1) := (eE 8 (by decide) (by decide)).trans (hs 1 (by decide))
  have e7 : E 7 = nI (v 0) := (eE 7 (by decide) (by decide)).trans (hs 0 (by decide))
  have m0 : buM 13 b0 E := h0.of (fun i i1 i2 => eE i (by omega) (by omega))
  have m1 : buM 17 b1 E := h1.of (fun i i1 i2 => eE i (by omega) (by omega))
  have ha := aw_le ht v2
  have hno : (aw t (v 0) ≤ v 1 ∨ ¬ v 5 = 1) → buM 13 (jB0 v t b b0) E ∧ buM 17 (jB1 v t b b1) E := by
    intro q
    have hj : ∀ x : Bu, buJ v t x = x := fun x => by
      unfold buJ
      by_cases c : aw t (v 0) ≤ v 1
      · rw [if_pos c]
      · rw [if_neg c, if_neg (by rcases q with q | q; exact absurd q c; exact q)]
    unfold jB0 jB1
    rw [hj, hj]
    constructor
    · split <;> exact m0
    · split <;> exact m1
  rw [f_X8_shot_J330, lt_v, gd_t (nI_in (by decide) (by decide)), lt_v, lt_v, v_cl (by decide), c145, hE, c12, e12]
  by_cases c5 : v 5 = 1
  · rw [if_pos (by rw [c5]; rfl), r_away e7 (by omega) (by omega), Option.bind_some, c8, e8]
    by_cases c : aw t (v 0) ≤ v 1
    · rw [if_pos (nI_le c (by omega))]
      exact ⟨E, rfl, (hno (Or.inl c)).1, (hno (Or.inl c)).2, e6, e145, fun i i1 i2 _ => eE i i1 i2⟩
    · rw [if_neg (nI_ge (by omega) (by omega))]
      have hj : ∀ x : Bu, buJ v t x = buX x t (v 0) := fun x => by
        unfold buJ
        rw [if_neg c, if_pos c5]
      rcases (show b = 0 ∨ b = 1 by omega) with rfl | rfl
      · obtain ⟨F, a1, a2, a3⟩ := r_corrects (b := 0) (x := b0) (t := t) (g := v 0) (by decide) k0 m0 e7 v1 v2 ht
        rw [a1, Option.bind_some]
        refine ⟨F, rfl, ?_, ?_, (a3 6 (by decide) (by decide)).trans e6, (a3 145 (by decide) (by decide)).trans e145, fun i i1 i2 i3 => (a3 i (by omega) (by omega)).trans (eE i i1 i2)⟩
        · show buM 13 (buJ v t b0) F
          rw [hj]; exact a2
        · exact m1.of (fun i i1 i2 => a3 i (by omega) (by omega))
      · obtain ⟨F, a1, a2, a3⟩ := r_corrects (b := 1) (x := b1) (t := t) (g := v 0) (by decide) k1 m1 e7 v1 v2 ht
        rw [a1, Option.bind_some]
        refine ⟨F, rfl, ?_, ?_, (a3 6 (by decide) (by decide)).trans e6, (a3 145 (by decide) (by decide)).trans e145, fun i i1 i2 i3 => (a3 i (by omega) (by omega)).trans (eE i i1 i2)⟩
        · exact m0.of (fun i i1 i2 => a3 i (by omega) (by omega))
        · show buM 17 (buJ v t b1) F
          rw [hj]; exact a2
  · rw [if_neg (show ¬ nI (v 5) = (1 : Int32) from fun q => c5 ((nI_eq (b := 1) (by omega) (by decide)).mp q))]
    exact ⟨E, rfl, (hno (Or.inr c5)).1, (hno (Or.inr c5)).2, e6, e145, fun i i1 i2 _ => eE i i1 i2⟩
theorem r_shotE {v : Nat → Nat} {t a b kd s1 se n K : Nat} {b0 b1 : Bu} {T P : Nat → Int32} {runs pasts : Int32} (h0 : buM 13 b0 T) (h1 : buM 17 b1 T) (hs : stM v T) (hv : stK v) (ht : t ≤ 30000) (hb : b < 2) (k0 : buK b0) (k1 : buK b1) (ha : a ≤ 400) (hs1 : s1 ≤ 400) (hkd : kd = if a < 2 * s1 then 1 else 0) (e0 : T 0 = nI se) (e145 : T 145 = nI n) (e546 : T 546 = nI K) (hK : K ≤ 12) :
    ∃ F, f_X8_shot_L123 runs (nI t) (nI a) (nI s1) (nI b) 1 (nI 6) T P pasts = f_X8_shot_J374 runs (nI t) F P pasts ∧ buM 13 (jB0 v t b b0) F ∧ buM 17 (jB1 v t b b1) F ∧ F 6 = nrJ v t (T 6) ∧ F 145 = 0 ∧ F 546 = nI (min 12 (K + 1)) ∧ F 5 = T 5 + 1 ∧ F 3 = T 3 + nI a ∧ (F 547 = T 5 ∧ F 548 = nI t ∧ F 549 = nI a ∧ F 550 = nI b ∧ F 551 = nI kd ∧ F 552 = nI se ∧ F 553 = nI n) ∧ ∀ i, i ≠ 3 → i ≠ 5 → i ≠ 6 → i ≠ 145 → (i < 13 ∨ 21 ≤ i) → (i < 546 ∨ 554 ≤ i) → F i = T i := by
  have d0 : (0 : Int32).toNatClampNeg = 0 := rfl
  have d3 : (3 : Int32).toNatClampNeg = 3 := rfl
  have d5 : (5 : Int32).toNatClampNeg = 5 := rfl
  have d6 : (6 : Int32).toNatClampNeg = 6 := rfl
  have d8 : (8 : Int32).toNatClampNeg = 8 := rfl
  have d546 : (546 : Int32).toNatClampNeg = 546 := rfl
  have d547 : (547 : Int32).toNatClampNeg = 547 := rfl
  have d548 : (548 : Int32).toNatClampNeg = 548 := rfl
  have d549 : (549 : Int32).toNatClampNeg = 549 := rfl
  have d550 : (550 : Int32).toNatClampNeg = 550 := rfl
  have d552 : (552 : Int32).toNatClampNeg = 552 := rfl
  have d553 : (553 : Int32).toNatClampNeg = 553 := rfl
  obtain ⟨v1, v2, v3, v4, v5, v6, v7, v8, v9⟩ := id hv
  have haw := aw_le ht v2
  generalize hA : upd (upd (upd (upd T 547 (T 5)) 548 (nI t)) 549 (nI a)) 550 (nI b) = A
  have eA : ∀ i, (i < 547 ∨ 551 ≤ i) → A i = T i := fun i hi => by rw [← hA, pk_un (by omega), pk_un (by omega), pk_un (by omega), pk_un (by omega)]
  have A547 : A 547 = T 5 := by rw [← hA, pk_un (by decide), pk_un (by decide), pk_un (by decide), pk_us]
  have A548 : A 548 = nI t := by rw [← hA, pk_un (by decide), pk_un (by decide), pk_us]
  have A549 : A 549 = nI a := by rw [← hA, pk_un (by decide), pk_us]
  have A550 : A 550 = nI b := by rw [← hA, pk_us]
  have stA : f_X8_shot_L123 runs (nI t) (nI a) (nI s1) (nI b) 1 (nI 6) T P pasts = f_X8_shot_J222 runs (nI t) (nI a) (nI b) (nI kd) (nI 551) A P pasts := by
    rw [f_X8_shot_L123, if_pos (by decide)]
    simp only [lt_v, d5, d547, d548, d549, d550]
    rw [hA, fa_lit 2, pk_mul, hkd]
    by_cases c : a < 2 * s1
    · rw [if_neg (nI_ge c (by omega)), if_pos c]; rfl
    · rw [if_pos (nI_le (by omega) (by omega)), if_neg c]; rfl
  generalize hG : upd (upd (upd A 551 (nI kd)) 552 (nI se)) 553 (nI n) = G
  have eG : ∀ i, (i < 551 ∨ 554 ≤ i) → G i = A i := fun i hi => by rw [← hG, pk_un (by omega), pk_un (by omega), pk_un (by omega)]
  have G551 : G 551 = nI kd := by rw [← hG, pk_un (by decide), pk_un (by decide), pk_us]
  have G552 : G 552 = nI se := by rw [← hG, pk_un (by decide), pk_us]
  have G553 : G 553 = nI n := by rw [← hG, pk_us]
  have G546 : G 546 = nI K := (eG 546 (by decide)).trans ((eA 546 (by decide)).trans e546)
  generalize hz : (if 12 ≤ K then 0 else 1) = z
  have hKz : K + z = min 12 (K + 1) := by rw [← hz]; split <;> omega
  have stB : f_X8_shot_J222 runs (nI t) (nI a) (nI b) (nI kd) (nI 551) A P pasts = f_X8_shot_J280 runs (nI t) (nI a) (nI b) (nI z) (nI K) (nI 546) G P pasts := by
    have u0 : upd A 551 (nI kd) 0 = nI se := (pk_un (by decide)).trans ((eA 0 (by decide)).trans e0)
    have u145 : upd (upd A 551 (nI kd)) 552 (nI se) 145 = nI n := (pk_un (by decide)).trans ((pk_un (by decide)).trans ((eA 145 (by decide)).trans e145))
    rw [f_X8_shot_J222, gd_t (nI_in (by decide) (by decide)), v_cl (by decide)]
    simp only [lt_v, d0, d552, d553, d546, c145]
    rw [u0, u145, hG, G546, fa_lit 12, ← hz]
    by_cases c : 12 ≤ K
    · rw [if_pos (nI_le c (by omega)), if_pos c]; rfl
    · rw [if_neg (nI_ge (by omega) (by decide)), if_neg c]; rfl
  generalize hC : upd (upd (upd G 546 (nI (K + z))) 5 (G 5 + 1)) 3 (G 3 + nI a) = C
  have eC : ∀ i, i ≠ 546 → i ≠ 5 → i ≠ 3 → C i = G i := fun i i1 i2 i3 => by rw [← hC, pk_un i3, pk_un i2, pk_un i1]
  have C546 : C 546 = nI (K + z) := by rw [← hC, pk_un (by decide), pk_un (by decide), pk_us]
  have C5 : C 5 = G 5 + 1 := by rw [← hC, pk_un (by decide), pk_us]
  have C3 : C 3 = G 3 + nI a := by rw [← hC, pk_us]
  have far : ∀ i, i ≠ 5 → i ≠ 3 → (i < 546 ∨ 554 ≤ i) → C i = T i := fun i i1 i2 i3 => (eC i (by omega) i1 i2).trans ((eG i (by omega)).trans (eA i (by omega)))
  have C7 : C 7 = nI (v 0) := (far 7 (by decide) (by decide) (by decide)).trans (hs 0 (by decide))
  have C8 : C 8 = nI (v 1) := (far 8 (by decide) (by decide) (by decide)).trans (hs 1 (by decide))
  have C6 : C 6 = T 6 := far 6 (by decide) (by decide) (by decide)
  obtain ⟨F, f1, f2, f3, f4, f5, f6⟩ := r_J330 (runs := runs) (P := P) (pasts := pasts) (C := C) (v := v) (t := t) (b := b) (b0 := b0) (b1 := b1) (if aw t (v 0) ≤ v 1 then 1 else 0) (h0.of (fun i i1 i2 => far i (by omega) (by omega) (by omega))) (h1.of (fun i i1 i2 => far i (by omega) (by omega) (by omega))) (hs.of (fun i i1 i2 => far i (by omega) (by omega) (by omega))) hv ht hb k0 k1
  have stC : f_X8_shot_J280 runs (nI t) (nI a) (nI b) (nI z) (nI K) (nI 546) G P pasts = f_X8_shot_J330 runs (nI t) (nI b) (if aw t (v 0) ≤ v 1 then 1 else 0) (C 6) (nI 6) C P pasts := by
    have u5 : upd G 546 (nI (K + z)) 5 = G 5 := pk_un (by decide)
    have u3 : upd (upd G 546 (nI (K + z))) 5 (G 5 + 1) 3 = G 3 := (pk_un (by decide)).trans (pk_un (by decide))
    rw [f_X8_shot_J280, lt_v, nI_add, gd_t (nI_in (by decide) (by decide)), v_cl (by decide)]
    simp only [lt_v, d3, d5, d6, d8]
    rw [u5, u3, hC, r_away C7 (by omega) (by omega), Option.bind_some, C8]
    by_cases c : aw t (v 0) ≤ v 1
    · rw [if_neg (nI_nlt c (by omega)), if_pos c]; rfl
    · rw [if_pos (nI_lt (by omega) (by omega)), if_neg c]; rfl
  have G5 : G 5 = T 5 := (eG 5 (by decide)).trans (eA 5 (by decide))
  have G3 : G 3 = T 3 := (eG 3 (by decide)).trans (eA 3 (by decide))
  refine ⟨F, stA.trans (stB.trans (stC.trans f1)), f2, f3, ?_, f5, ?_, ?_, ?_, ⟨?_, ?_, ?_, ?_, ?_, ?_, ?_⟩, ?_⟩
  · rw [f4, C6]
    unfold nrJ
    split
    · rfl
    · exact Int32.add_zero _
  · rw [f6 546 (by decide) (by decide) (by decide), C546, hKz]
  · rw [f6 5 (by decide) (by decide) (by decide), C5, G5]
  · rw [f6 3 (by decide) (by decide) (by decide), C3, G3]
  · rw [f6 547 (by decide) (by decide) (by decide), eC 547 (by decide) (by decide) (by decide), eG 547 (by decide), A547]
  · rw [f6 548 (by decide) (by decide) (by decide), eC 548 (by decide) (by decide) (by decide), eG 548 (by decide), A548]
  · rw [f6 549 (by decide) (by decide) (by decide), eC 549 (by decide) (by decide) (by decide), eG 549 (by decide), A549]
  · rw [f6 550 (by decide) (by decide) (by decide), eC 550 (by decide) (by decide) (by decide), eG 550 (by decide), A550]
  · rw [f6 551 (by decide) (by decide) (by decide), eC 551 (by decide) (by decide) (by decide), G551]
  · rw [f6 552 (by decide) (by decide) (by decide), eC 552 (by decide) (by decide) (by decide), G552]
  · rw [f6 553 (by decide) (by decide) (by decide), eC 553 (by decide) (by decide) (by decide), G553]
  · intro i i1 i2 i3 i4 i5 i6
    rw [f6 i i3 i4 i5, far i i2 i1 i6]
theorem r_shot {σ : Sp} {hs : List Sp} {B : Nat} {S P : Nat → Int32} {pasts runs : Int32} (h : PR hs P pasts) (hm : MR σ S) (hk : KK σ B) (hK : KH hs B) (hB : B < 2 ^ 28) (hr : runs = 0 ∨ runs = 1) : ∃ R, f_X8_shot S P pasts runs = some R ∧ RC σ (o_shot σ) hs (a_shot (v_st σ) (v_ba σ)) S P pasts runs R := by
  obtain ⟨P', pasts', q1, q2, q3⟩ := r_chg h hm hk hK hr
  obtain ⟨m1, m2, m3, m4, m5, m6, m7, m8, m9, m10, m11, m12, m13, m14⟩ := hm
  obtain ⟨k1, k2, k3, k4, k5, k6, k7, k8, k9, k10, k11, k12, k13, k14⟩ := hk
  have l1 := len_tot k5
  have l2 := len_tot k8
  have hokP := okP_of k8 (by omega)
  unfold a_shot
  rw [f_X8_shot, c145, m5.1]
  by_cases c : tot (v_ba σ) = 0
  · have : (v_ba σ).length = 0 := by omega
    rw [this, if_pos nI_0, if_pos c]
    exact ⟨_, rfl, RC_neg ltB⟩
  · have hne : (v_ba σ).length ≠ 0 := by
      intro q
      exact c (by rw [List.length_eq_zero_iff.mp q]; rfl)
    have eb : f_X8_amounts (145 : Int32) (146 : Int32) S = some (nI (tot (v_ba σ))) := r_amounts (b := 145) m5 hokP (by omega)
    have ht := timeS_le k13 (v_ba σ)
    have sB := sumIf_le isB (v_ba σ)
    have sK := sumIf_le isK (v_ba σ)
    have e42 := r_L42 (runs := runs) (y1 := nI (timeS (v_st σ) (v_ba σ))) (P := P') (pasts := pasts') (T := tot (v_ba σ)) m5 hokP (by omega) (by omega) (v_ba σ).length 0 0 0 FU (v_ba σ) rfl (by omega) (fun k _ => by rw [Nat.zero_add]) (by show _ < 20000; omega) (by omega)
    rw [Nat.zero_add, Nat.zero_add] at e42
    have hmo : (if tot (v_ba σ) < 2 * sumIf isB (v_ba σ) then 1 else 0) = mostly isB (v_ba σ) := rfl
    rw [hmo] at e42
    obtain ⟨T, t1, t2, t3⟩ := r_L123 (runs := runs) (y1 := nI (timeS (v_st σ) (v_ba σ))) (y2 := nI (tot (v_ba σ))) (y3 := nI (sumIf isK (v_ba σ))) (y5 := nI (mostly isB (v_ba σ))) (P := P') (pasts := pasts') 77 FU S (by decide) (by show 77 < 20000; omega)
    have tS : ∀ i, i < 554 → T i = S i := fun i hi => t3 i (Or.inl hi)
    obtain ⟨F, f1, f2, f3, f4, f5, f6, f7, f8, f9, f10⟩ := r_shotE (runs := runs) (P := P') (pasts := pasts') (v := v_st σ) (t := timeS (v_st σ) (v_ba σ)) (a := tot (v_ba σ)) (b := mostly isB (v_ba σ)) (kd := mostly isK (v_ba σ)) (s1 := sumIf isK (v_ba σ)) (se := v_se σ) (n := (v_ba σ).length) (K := (v_K σ).length) (T := T) (m2.of (fun i i1 i2 => tS i (by omega))) (m3.of (fun i i1 i2 => tS i (by omega))) (m8.of (fun i i1 i2 => tS i (by omega))) k13 ht (mostly_lt _ _) k11 k12 (by omega) (by omega) rfl ((tS 0 (by decide)).trans m9) ((tS 145 (by decide)).trans m5.1) ((tS 546 (by decide)).trans m6.1) m6.2.1
    have hw0 : (jB0 (v_st σ) (timeS (v_st σ) (v_ba σ)) (mostly isB (v_ba σ)) (v_b0 σ)).2.1 ≤ 300 := by
      unfold jB0
      split
      · rw [buJ_w]; exact k11.2.2
      · exact k11.2.2
    have hw1 : (jB1 (v_st σ) (timeS (v_st σ) (v_ba σ)) (mostly isB (v_ba σ)) (v_b1 σ)).2.1 ≤ 300 := by
      unfold jB1
      split
      · exact k12.2.2
      · rw [buJ_w]; exact k12.2.2
    have F0 : F 0 = nI (v_se σ) := (f10 0 (by decide) (by decide) (by decide) (by decide) (by decide) (by decide)).trans ((tS 0 (by decide)).trans m9)
    obtain ⟨S2, p1, p2, p3, p4, p5⟩ := r_passes (n := timeS (v_st σ) (v_ba σ) / 10) (by omega) F0 f2.2.1 f3.2.1 (by omega) hw0 hw1
    have hdiv : nI (timeS (v_st σ) (v_ba σ)) / (10 : Int32) = nI (timeS (v_st σ) (v_ba σ) / 10) := by rw [fa_lit 10, pk_div (by omega) (by decide) (by decide)]
    rw [if_neg (nI_ne0 (by omega) (by omega)), if_neg c, q1, Option.bind_some, r_time m5 m8 k13 k8 k9 k10 (by omega), Option.bind_some, eb, Option.bind_some]
    have e42' : f_X8_shot_L42 runs (nI (timeS (v_st σ) (v_ba σ))) (nI (tot (v_ba σ))) FU 0 0 0 S P' pasts' = f_X8_shot_J117 runs (nI (timeS (v_st σ) (v_ba σ))) (nI (tot (v_ba σ))) (nI (sumIf isK (v_ba σ))) (nI (mostly isB (v_ba σ))) S P' pasts' := e42
    have t1' : f_X8_shot_L123 runs (nI (timeS (v_st σ) (v_ba σ))) (nI (tot (v_ba σ))) (nI (sumIf isK (v_ba σ))) (nI (mostly isB (v_ba σ))) FU 83 S P' pasts' = _ := t1
    rw [e42', f_X8_shot_J117, t1', f1, f_X8_shot_J374, hdiv, p1, Option.bind_some, if_pos (nI_pos' (by omega))]
    have far : ∀ i, i ≠ 0 → i ≠ 3 → i ≠ 5 → i ≠ 6 → i ≠ 145 → (i < 13 ∨ 21 ≤ i) → i < 546 → S2 i = S i := fun i i0 i1 i2 i3 i4 i5 i6 => (p5 i i0 (by omega) (by omega)).trans ((f10 i i1 i2 i3 i4 i5 (Or.inl i6)).trans (tS i (by omega)))
    have sh : ∀ i, 546 ≤ i → S2 i = F i := fun i hi => p5 i (by omega) (by omega) (by omega)
    have old : ∀ k j, k < 11 → j < 7 → S2 (547 + 7 * (k + 1) + j) = S (547 + 7 * k + j) := fun k j hk hj => by
      rw [sh _ (by omega), f10 _ (by omega) (by omega) (by omega) (by omega) (by omega) (by omega), show 547 + 7 * (k + 1) + j = 547 + (7 * (k + 1) + j) by omega, t2 _ (by omega) (by omega)]
      exact congrArg S (by omega)
    have hlen : ((shotN (v_st σ) (v_ba σ) (v_mk σ) (v_se σ) :: v_K σ).take 12).length = min 12 ((v_K σ).length + 1) := by rw [List.length_take]; rfl
    have hM : MR (o_shot σ) S2 := by
      refine ⟨m1.of k4 (fun i i1 i2 => far i (by omega) (by omega) (by omega) (by omega) (by omega) (by omega) (by omega)), ⟨?_, p3, ?_, ?_⟩, ⟨?_, p4, ?_, ?_⟩, m4.of (n := 100) (by omega) (fun i i1 i2 => far i (by omega) (by omega) (by omega) (by omega) (by omega) (by omega) (by omega)), ⟨(p5 145 (by decide) (by decide) (by decide)).trans f5, fun k q => absurd q (Nat.not_lt_zero k)⟩, ⟨?_, ?_, ?_, ?_⟩, ?_, m8.of (fun i i1 i2 => far i (by omega) (by omega) (by omega) (by omega) (by omega) (by omega) (by omega)), p2, (far 1 (by decide) (by decide) (by decide) (by decide) (by decide) (by decide) (by decide)).trans m10, (far 2 (by decide) (by decide) (by decide) (by decide) (by decide) (by decide) (by decide)).trans m11, ?_, (far 4 (by decide) (by decide) (by decide) (by decide) (by decide) (by decide) (by decide)).trans m13, ?_⟩
      · exact (p5 13 (by decide) (by decide) (by decide)).trans f2.1
      · exact (p5 15 (by decide) (by decide) (by decide)).trans f2.2.2.1
      · exact (p5 16 (by decide) (by decide) (by decide)).trans f2.2.2.2
      · exact (p5 17 (by decide) (by decide) (by decide)).trans f3.1
      · exact (p5 19 (by decide) (by decide) (by decide)).trans f3.2.2.1
      · exact (p5 20 (by decide) (by decide) (by decide)).trans f3.2.2.2
      · show S2 546 = nI ((shotN (v_st σ) (v_ba σ) (v_mk σ) (v_se σ) :: v_K σ).take 12).length
        rw [hlen, sh 546 (by decide), f6]
      · show ((shotN (v_st σ) (v_ba σ) (v_mk σ) (v_se σ) :: v_K σ).take 12).length ≤ 12
        rw [hlen]; omega
      · intro k hk
        have hk' : k < ((shotN (v_st σ) (v_ba σ) (v_mk σ) (v_se σ) :: v_K σ).take 12).length := hk
        rw [hlen] at hk'
        show (sk0 ((shotN (v_st σ) (v_ba σ) (v_mk σ) (v_se σ) :: v_K σ).take 12) k).2.1 ≤ 30000
        rw [sk0_t _ (by omega)]
        cases k with
        | zero => exact ht
        | succ k => rw [sk0_s]; exact m6.2.2.1 k (by omega)
      · intro k hk
        have hk' : k < ((shotN (v_st σ) (v_ba σ) (v_mk σ) (v_se σ) :: v_K σ).take 12).length := hk
        rw [hlen] at hk'
        show shG S2 (547 + 7 * k) (sk0 ((shotN (v_st σ) (v_ba σ) (v_mk σ) (v_se σ) :: v_K σ).take 12) k)
        rw [sk0_t _ (by omega)]
        cases k with
        | zero =>
          rw [sk0_0]
          obtain ⟨g1, g2, g3, g4, g5, g6, g7⟩ := f9
          exact ⟨(sh 547 (by decide)).trans (g1.trans ((tS 5 (by decide)).trans m7)), (sh 548 (by decide)).trans g2, (sh 549 (by decide)).trans g3, (sh 550 (by decide)).trans g4, (sh 551 (by decide)).trans g5, (sh 552 (by decide)).trans g6, (sh 553 (by decide)).trans g7⟩
        | succ k =>
          rw [sk0_s]
          obtain ⟨g1, g2, g3, g4, g5, g6, g7⟩ := m6.2.2.2 k (by omega)
          exact ⟨(old k 0 (by omega) (by decide)).trans g1, (old k 1 (by omega) (by decide)).trans g2, (old k 2 (by omega) (by decide)).trans g3, (old k 3 (by omega) (by decide)).trans g4, (old k 4 (by omega) (by decide)).trans g5, (old k 5 (by omega) (by decide)).trans g6, (old k 6 (by omega) (by decide)).trans g7⟩
      · exact (p5 5 (by decide) (by decide) (by decide)).trans (f7.trans (by rw [tS 5 (by decide), m7]; rfl))
      · exact (p5 3 (by decide) (by decide) (by decide)).trans (f8.trans (by rw [tS 3 (by decide), m12]; rfl))
      · exact (p5 6 (by decide) (by decide) (by decide)).trans (f4.trans (by rw [tS 6 (by decide), m14]; rfl))
    exact ⟨_, rfl, RC_pos (nI_nn (by omega)) hM q2 q3⟩
