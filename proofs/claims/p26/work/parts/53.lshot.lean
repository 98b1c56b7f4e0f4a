/-! the law's shots and corrections -/
theorem L_brew_L {v : Nat → Nat} {L : List (Nat × Nat)} {G A : Nat → Int32} (hs : stE v G) (hv : stK v) (h : rwE L A) (hok : okE L) (hb : L.length ≤ 63) (hT : tot L ≤ 400) (h0 : 0 < tot L) : ∀ (m i s fuel : Nat) (Lr : List (Nat × Nat)), Lr.length = m → i + m = L.length → (∀ k : Nat, k < m → lk Lr k = lk L (i + k)) → m < fuel → s + sumF v Lr ≤ 400 * 30000 → f_L_brew_L4 G A fuel (nI s) (nI (i + 1)) = some (nI ((s + sumF v Lr) / tot L)) := by
  intro m
  induction m with
  | zero =>
    intro i s fuel Lr hL hi hk hf hsm
    obtain ⟨fu, rfl⟩ : ∃ fu, fuel = fu + 1 := ⟨fuel - 1, by omega⟩
    have hL0 : Lr = [] := List.length_eq_zero_iff.mp hL
    subst hL0
    rw [f_L_brew_L4, cN (n := 0) (by decide), h.1, if_pos (nI_lt (by omega) (by omega)), L_amounts h hok hb, Option.bind_some, gd_t (nI_ne0 h0 (by omega)), pk_div (by omega) h0 (by omega)]
    rfl
  | succ m ih =>
    intro i s fuel Lr hL hi hk hf hsm
    obtain ⟨fu, rfl⟩ : ∃ fu, fuel = fu + 1 := ⟨fuel - 1, by omega⟩
    match Lr, hL with
    | p :: Lr, hL =>
      simp only [List.length_cons] at hL
      have h1 := hk 0 (by omega)
      rw [lk_0, Nat.add_zero] at h1
      have hp := hok (lk L i) (lk_m (by omega))
      have hl := en_lt hp.2.1 hp.2.2.2
      have e1 : en (lk L i) % 1000 = (lk L i).1 := by unfold en; omega
      simp only [sumF] at hsm ⊢
      have ih' := ih (i + 1) (s + p.1 * flm v p.2) fu Lr (by omega) (by omega) (fun k q => by
        have := hk (k + 1) (by omega)
        rw [lk_s] at this
        rw [this, show i + (k + 1) = i + 1 + k by omega]) (by omega) (by omega)
      have gi : ¬ (nI (i + 1) < 0 ∨ 64 ≤ (nI (i + 1)).toNatClampNeg) := nI_in (by omega) (by decide)
      rw [f_L_brew_L4, cN (n := 0) (by decide), h.1, if_neg (nI_nlt (by omega) (by omega)), gd_t gi, gd_t gi, v_cl (by omega), h.2 i (by omega), L_flow hs hv hp.2.1 hp.2.2.1 hp.2.2.2, Option.bind_some]
      simp only [lt_v]
      rw [fa_lit 1000, pk_rem (by omega) (by decide) (by decide), e1, pk_mul, nI_add, nI_1, ← h1, ih', Nat.add_assoc]
theorem L_brew {v : Nat → Nat} {L : List (Nat × Nat)} {G A : Nat → Int32} (hs : stE v G) (hv : stK v) (h : rwE L A) (hok : okE L) (hb : L.length ≤ 63) (hT : tot L ≤ 400) (h0 : 0 < tot L) : f_L_brew G A = some (nI (timeS v L)) := by
  have hsum := sumF_le hv L
  have := L_brew_L hs hv h hok hb hT h0 L.length 0 0 FU L rfl (by omega) (fun k _ => by rw [Nat.zero_add]) (by show _ < 20000; omega) (by omega)
  rw [nI_0, Nat.zero_add, Nat.zero_add] at this
  exact this
theorem L_correct {b t g : Nat} {x : Bu} {G U : Nat → Int32} (hb : b < 2) (hx : buE b x U) (hxb : buK x) (h7 : G 7 = nI g) (ht : t ≤ 30000) (hg : 100 ≤ g) (hg2 : g ≤ 600) : f_L_correct (nI b) (nI t) G U = some (upd (upd U (4 * b) (nI (cor x.1 t g))) (4 * b + 3) (x.2.2.2 + 1)) := by
  have hdt : x.1 * t ≤ 60 * 30000 := Nat.mul_le_mul hxb.2.1 ht
  have i0 : (4 : Int32) * nI b = nI (4 * b) := by rw [fa_lit 4, pk_mul]
  have i3 : nI (4 * b) + (3 : Int32) = nI (4 * b + 3) := by rw [fa_lit 3, nI_add]
  have g0 : ¬ (nI (4 * b) < 0 ∨ 8 ≤ (nI (4 * b)).toNatClampNeg) := nI_in (by omega) (by decide)
  have g3 : ¬ (nI (4 * b + 3) < 0 ∨ 8 ≤ (nI (4 * b + 3)).toNatClampNeg) := nI_in (by omega) (by decide)
  have c0 : (nI (4 * b)).toNatClampNeg = 4 * b := v_cl (by omega)
  have c3 : (nI (4 * b + 3)).toNatClampNeg = 4 * b + 3 := v_cl (by omega)
  have q : ∀ d : Nat, f_L_correct_J48 G (nI b) (nI d) (nI (4 * b)) U = some (upd (upd U (4 * b) (nI d)) (4 * b + 3) (x.2.2.2 + 1)) := fun d => by
    have u3 : upd U (4 * b) (nI d) (4 * b + 3) = x.2.2.2 := (pk_un (by omega)).trans hx.2.2.2
    rw [f_L_correct_J48, gd_t g0, c0]
    simp only [lt_v]
    rw [i0, i3, gd_t g3, gd_t g3, c3, u3]
  rw [f_L_correct, i0, gd_t g0, c0, hx.1, cN (n := 7) (by decide), h7, gd_t (nI_ne0 (by omega) (by omega)), fa_lit 2, pk_mul, pk_div (a := g) (d := 2) (by omega) (by decide) (by decide), nI_add]
  unfold cor
  generalize x.1 * t = m at hdt ⊢
  rw [pk_div (by omega) (by omega) (by omega), lt_v, fa_lit 60]
  have hz : (m + g / 2) / g ≤ m + g / 2 := Nat.div_le_self _ _
  generalize (m + g / 2) / g = z at hz ⊢
  by_cases h1 : z ≤ 60
  · rw [if_pos (nI_le h1 (by decide))]
    by_cases h2 : z = 0
    · subst h2
      rw [if_pos (by rw [nI_0]; exact Int32.le_refl 0), fa_lit 1, q 1]
      rfl
    · rw [if_neg (nI_nle (by omega) (by omega)), q z, show max 1 (min 60 z) = z by omega]
  · rw [if_neg (nI_ge (by omega) (by omega)), q 60, show max 1 (min 60 z) = 60 by omega]
/-- what has not got the bit -/
def fN (b : Nat → Bool) : List (Nat × Nat) → Nat
  | [] => 0
  | p :: L => (if b p.2 then 0 else p.1) + fN b L
theorem fN_sum (b : Nat → Bool) : ∀ L : List (Nat × Nat), fN b L + sumIf b L = tot L
  | [] => rfl
  | p :: L => by
    have := fN_sum b L
    simp only [fN, sumIf, tot]
    split <;> omega
theorem mostly_fN (b : Nat → Bool) (L : List (Nat × Nat)) : mostly b L = if fN b L < tot L - fN b L then 1 else 0 := by
  have := fN_sum b L
  unfold mostly
  by_cases c : tot L < 2 * sumIf b L
  · rw [if_pos c, if_pos (by omega)]
  · rw [if_neg c, if_neg (by omega)]
abbrev LSh : Type := Int32 × (Nat → Int32) × (Nat → Int32) × (Nat → Int32) × (Nat → Int32) × (Nat → Int32) × Sp
theorem L_sh43 {L : List (Nat × Nat)} {G U E T X : Nat → Int32} {σ : Sp} {y6 y7 : Int32} (h : rwE L E) (hok : okE L) (hb : L.length ≤ 63) : ∀ (m i f p fuel : Nat) (Lr : List (Nat × Nat)), Lr.length = m → i + m = L.length → (∀ k : Nat, k < m → lk Lr k = lk L (i + k)) → m < fuel → f_L_shoots_L43 y6 y7 fuel (nI f) (nI p) (nI (i + 1)) G U E T X σ = f_L_shoots_L121 y6 y7 (nI (f + fN isB Lr)) (nI (p + fN isK Lr)) FU (47 : Int32) G U E T X σ := by
  intro m
  induction m with
  | zero =>
    intro i f p fuel Lr hL hi hk hf
    obtain ⟨fu, rfl⟩ : ∃ fu, fuel = fu + 1 := ⟨fuel - 1, by omega⟩
    have hL0 : Lr = [] := List.length_eq_zero_iff.mp hL
    subst hL0
    rw [f_L_shoots_L43, cN (n := 0) (by decide), h.1, if_pos (nI_lt (by omega) (by omega))]
    rfl
  | succ m ih =>
    intro i f p fuel Lr hL hi hk hf
    obtain ⟨fu, rfl⟩ : ∃ fu, fuel = fu + 1 := ⟨fuel - 1, by omega⟩
    match Lr, hL with
    | q :: Lr, hL =>
      simp only [List.length_cons] at hL
      have h1 := hk 0 (by omega)
      rw [lk_0, Nat.add_zero] at h1
      have hp := hok (lk L i) (lk_m (by omega))
      rw [← h1] at hp
      have hl := en_lt hp.2.1 hp.2.2.2
      have e0 : en q % 1000 = q.1 := by unfold en; omega
      have e1 : en q / 1000 % 2 = q.2 % 2 := by unfold en; omega
      have e2 : en q / 2000 % 2 = q.2 / 2 % 2 := by unfold en; omega
      have gi : ¬ (nI (i + 1) < 0 ∨ 64 ≤ (nI (i + 1)).toNatClampNeg) := nI_in (by omega) (by decide)
      have ih' := fun f p => ih (i + 1) f p fu Lr (by omega) (by omega) (fun k q => by
        have := hk (k + 1) (by omega)
        rw [lk_s] at this
        rw [this, show i + (k + 1) = i + 1 + k by omega]) (by omega)
      have h108 : ∀ f p z : Nat, f_L_shoots_J108 (f_L_shoots_L43 y6 y7 fu) y6 y7 (nI f) (nI (i + 1)) (nI z) (nI p) G U E T X σ = f_L_shoots_L121 y6 y7 (nI (f + fN isB Lr)) (nI (p + z + fN isK Lr)) FU (47 : Int32) G U E T X σ := fun f p z => by
        rw [f_L_shoots_J108, lt_v, lt_v, nI_add, nI_1, ih']
      have h78 : ∀ f z : Nat, f_L_shoots_J78 (f_L_shoots_L43 y6 y7 fu) y6 y7 (nI p) (nI (i + 1)) (nI z) (nI f) G U E T X σ = f_L_shoots_L121 y6 y7 (nI (f + z + fN isB Lr)) (nI (p + fN isK (q :: Lr))) FU (47 : Int32) G U E T X σ := fun f z => by
        rw [f_L_shoots_J78, lt_v, nI_add, gd_t gi, gd_t gi, v_cl (by omega), h.2 i (by omega), ← h1, fa_lit 1000, fa_lit 2, pk_rem (a := en q) (d := 1000) (by omega) (by decide) (by decide), pk_div (a := en q) (d := 1000) (by omega) (by decide) (by decide), pk_rem (by omega) (by decide) (by decide), e0, e1]
        by_cases c : q.2 % 2 = 0
        · rw [if_pos (by rw [c]; exact nI_0), h108, show fN isK (q :: Lr) = q.1 + fN isK Lr by simp [fN, isK, c], Nat.add_assoc p]
        · rw [if_neg (nI_ne0 (by omega) (by omega)), ← nI_0, h108, show fN isK (q :: Lr) = fN isK Lr by simp [fN, isK, show q.2 % 2 = 1 by omega], Nat.add_zero]
      rw [f_L_shoots_L43, cN (n := 0) (by decide), h.1, if_neg (nI_nlt (by omega) (by omega)), gd_t gi, gd_t gi, v_cl (by omega), h.2 i (by omega), ← h1, fa_lit 2000, fa_lit 2, fa_lit 1000, pk_div (a := en q) (d := 2000) (by omega) (by decide) (by decide), pk_rem (by omega) (by decide) (by decide), pk_rem (by omega) (by decide) (by decide), e0, e2]
      by_cases c : q.2 / 2 % 2 = 0
      · rw [if_pos (by rw [c]; exact nI_0), h78, show fN isB (q :: Lr) = q.1 + fN isB Lr by simp [fN, isB, c], Nat.add_assoc f]
      · rw [if_neg (nI_ne0 (by omega) (by omega)), ← nI_0, h78, show fN isB (q :: Lr) = fN isB Lr by simp [fN, isB, show q.2 / 2 % 2 = 1 by omega], Nat.add_zero]
theorem L_sh121 {G U E T : Nat → Int32} {σ : Sp} {y6 y7 y8 y9 : Int32} : ∀ (m fuel : Nat) (X : Nat → Int32), m ≤ 44 → m < fuel → ∃ X', f_L_shoots_L121 y6 y7 y8 y9 fuel (nI (m + 3)) G U E T X σ = f_L_shoots_L149 y6 y7 y8 y9 FU (35 : Int32) G U E T X' σ ∧ (∀ k, 4 ≤ k → k ≤ m + 3 → X' k = X (k - 4)) ∧ ∀ k, (k < 4 ∨ m + 3 < k) → X' k = X k := by
  intro m
  induction m with
  | zero =>
    intro fuel X hm hf
    obtain ⟨fu, rfl⟩ : ∃ fu, fuel = fu + 1 := ⟨fuel - 1, by omega⟩
    rw [f_L_shoots_L121, if_pos (by rw [fa_L]; exact nI_le (by omega) (by omega))]
    exact ⟨X, rfl, fun k h1 h2 => absurd h2 (by omega), fun k _ => rfl⟩
  | succ m ih =>
    intro fuel X hm hf
    obtain ⟨fu, rfl⟩ : ∃ fu, fuel = fu + 1 := ⟨fuel - 1, by omega⟩
    obtain ⟨X', a1, a2, a3⟩ := ih fu (upd X (m + 4) (X m)) (by omega) (by omega)
    refine ⟨X', ?_, ?_, ?_⟩
    · rw [f_L_shoots_L121, if_neg (by rw [fa_L]; exact nI_ge (by omega) (by omega)), fa_lit 4, show m + 1 + 3 = m + 4 by omega, pk_sub (by omega), show m + 4 - 4 = m by omega, gd_t (nI_in (by omega) (by decide)), v_cl (by omega)]
      simp only [lt_v]
      rw [gd_t (nI_in (by omega) (by decide)), v_cl (by omega), show m + 4 = m + 3 + 1 by omega, pk_m1, show m + 3 + 1 = m + 4 by omega, a1]
    · intro k h1 h2
      by_cases e : k = m + 4
      · subst e
        rw [a3 _ (Or.inr (by omega)), pk_us, Nat.add_sub_cancel]
      · rw [a2 k h1 (by omega), pk_un (by omega)]
    · intro k hk
      rw [a3 k (by omega), pk_un (by omega)]
/-- behind the rows' shifting -/
noncomputable def LS1 (y6 y7 y8 y9 : Int32) (G U E T X : Nat → Int32) (σ : Sp) : Option LSh := if y8 < y7 - y8 then f_L_shoots_J210 y6 y7 y9 1 0 G U E (upd (upd (upd T 0 (G 5)) 1 y6) 2 y7) X σ else f_L_shoots_J210 y6 y7 y9 0 0 G U E (upd (upd (upd T 0 (G 5)) 1 y6) 2 y7) X σ
theorem L_sh149 {G U E X : Nat → Int32} {σ : Sp} {y6 y7 y8 y9 : Int32} : ∀ (m fuel : Nat) (T : Nat → Int32), m ≤ 33 → m < fuel → ∃ T', f_L_shoots_L149 y6 y7 y8 y9 fuel (nI (m + 2)) G U E T X σ = LS1 y6 y7 y8 y9 G U E T' X σ ∧ (∀ k, 3 ≤ k → k ≤ m + 2 → T' k = T (k - 3)) ∧ ∀ k, (k < 3 ∨ m + 2 < k) → T' k = T k := by
  intro m
  induction m with
  | zero =>
    intro fuel T hm hf
    obtain ⟨fu, rfl⟩ : ∃ fu, fuel = fu + 1 := ⟨fuel - 1, by omega⟩
    refine ⟨T, ?_, fun k h1 h2 => absurd h2 (by omega), fun k _ => rfl⟩
    rw [f_L_shoots_L149, if_pos (by rw [fa_L]; exact nI_le (by omega) (by omega))]
    rfl
  | succ m ih =>
    intro fuel T hm hf
    obtain ⟨fu, rfl⟩ : ∃ fu, fuel = fu + 1 := ⟨fuel - 1, by omega⟩
    obtain ⟨T', a1, a2, a3⟩ := ih fu (upd T (m + 3) (T m)) (by omega) (by omega)
    refine ⟨T', ?_, ?_, ?_⟩
    · rw [f_L_shoots_L149, if_neg (by rw [fa_L]; exact nI_ge (by omega) (by omega)), fa_lit 3, show m + 1 + 2 = m + 3 by omega, pk_sub (by omega), show m + 3 - 3 = m by omega, gd_t (nI_in (by omega) (by decide)), v_cl (by omega)]
      simp only [lt_v]
      rw [gd_t (nI_in (by omega) (by decide)), v_cl (by omega), show m + 3 = m + 2 + 1 by omega, pk_m1, show m + 2 + 1 = m + 3 by omega, a1]
    · intro k h1 h2
      by_cases e : k = m + 3
      · subst e
        rw [a3 _ (Or.inr (by omega)), pk_us, Nat.add_sub_cancel]
      · rw [a2 k h1 (by omega), pk_un (by omega)]
    · intro k hk
      rw [a3 k (by omega), pk_un (by omega)]
