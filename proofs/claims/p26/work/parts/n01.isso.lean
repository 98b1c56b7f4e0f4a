/-! what the law looks at behind each turn -/
theorem two01 {w : Nat} (hw : w < 2) : nI w = 0 ∨ nI w = 1 := by
  rcases (show w = 0 ∨ w = 1 by omega) with rfl | rfl
  · exact Or.inl nI_0
  · exact Or.inr rfl
theorem hi_no {j n : Nat} (hj : j ≤ n) (hn : n < 2 ^ 31) : ¬ (nI j < 0 ∨ nI n < nI j) := fun q => by
  rcases q with q | q
  · exact nI_pos (by omega) q
  · exact nI_nlt hj hn q
section IS
variable {σ : Sp} {G U H C E T X : Nat → Int32} {n : Nat}
theorem ap_ok {w i j : Nat} (hw : w < 2) (hi : i < 2 ^ 31) (hj : j ≤ 4) : A_portionOf (nI w) (nI i) (nI j) σ = if i < (if w = 0 then v_ch σ else v_ba σ).length then tlP (v_st σ) (lk (if w = 0 then v_ch σ else v_ba σ) i) j else cNF := by
  have e : (if nI w = 0 then v_ch σ else v_ba σ) = (if w = 0 then v_ch σ else v_ba σ) := by
    rcases (show w = 0 ∨ w = 1 by omega) with rfl | rfl
    · rw [if_pos nI_0, if_pos rfl]
    · rw [if_neg (by decide), if_neg (by decide)]
  rw [A_portionOf, if_pos (two01 hw), if_neg (nI_pos hi), if_neg (show ¬ (nI j < 0 ∨ (4 : Int32) < nI j) from hi_no (n := 4) hj (by decide)), nx_n hi, nx_n (by omega), e]
theorem S_por_L {w : Nat} {L : List (Nat × Nat)} (hw : w < 2) (hL : (if w = 0 then v_ch σ else v_ba σ) = L) (h : rwE L C) (hok : okE L) (hlen : L.length ≤ 63) (hs : stE (v_st σ) G) (hv : stK (v_st σ)) : ∀ (m i fuel : Nat), i + m = L.length → m < fuel → f_L_arePortions_L6 G C σ (nI w) fuel 1 (nI i) = f_L_arePortions_J129 G C σ (nI w) 1 := by
  intro m
  induction m with
  | zero =>
    intro i fuel hi hf
    obtain ⟨fu, rfl⟩ : ∃ fu, fuel = fu + 1 := ⟨fuel - 1, by omega⟩
    rw [f_L_arePortions_L6, cN (n := 0) (by decide), h.1, if_pos (nI_le (by omega) (by omega))]
  | succ m ih =>
    intro i fuel hi hf
    obtain ⟨fu, rfl⟩ : ∃ fu, fuel = fu + 1 := ⟨fuel - 1, by omega⟩
    have hp := hok (lk L i) (lk_m (by omega))
    have hC : C (i + 1) = nI (en (lk L i)) := h.2 i (by omega)
    have ih' := ih (i + 1) fu (by omega) (by omega)
    have ap : ∀ j : Nat, j ≤ 4 → A_portionOf (nI w) (nI i) (nI j) σ = tlP (v_st σ) (lk L i) j := fun j hj => by
      rw [ap_ok hw (by omega) hj, hL, if_pos (by omega)]
    have a0 : A_portionOf (nI w) (nI i) (0 : Int32) σ = nI (lk L i).1 := ap 0 (by decide)
    have a1 : A_portionOf (nI w) (nI i) (1 : Int32) σ = nI ((lk L i).2 % 2) := ap 1 (by decide)
    have a2 : A_portionOf (nI w) (nI i) (2 : Int32) σ = nI ((lk L i).2 / 2 % 2) := ap 2 (by decide)
    have a3 : A_portionOf (nI w) (nI i) (3 : Int32) σ = nI ((lk L i).2 / 4) := ap 3 (by decide)
    have a4 : A_portionOf (nI w) (nI i) (4 : Int32) σ = nI (flm (v_st σ) (lk L i).2) := ap 4 (by decide)
    have hfl := L_flow hs hv hp.2.1 hp.2.2.1 hp.2.2.2
    have hl := en_lt hp.2.1 hp.2.2.2
    clear ap
    generalize lk L i = p at *
    have z0 : en p % 1000 = p.1 := by unfold en; omega
    have z1 : en p / 1000 = p.2 := by unfold en; omega
    have z2 : en p / 2000 = p.2 / 2 := by unfold en; omega
    have z4 : en p / 4000 = p.2 / 4 := by unfold en; omega
    have r0 : nI (en p) - nI (en p) / (1000 : Int32) * (1000 : Int32) = nI p.1 := by rw [fa_lit 1000, pk_rem (by omega) (by decide) (by decide), z0]
    have d1 : nI (en p) / (1000 : Int32) = nI p.2 := by rw [fa_lit 1000, pk_div (by omega) (by decide) (by decide), z1]
    have r1 : nI p.2 - nI p.2 / (2 : Int32) * (2 : Int32) = nI (p.2 % 2) := by rw [fa_lit 2, pk_rem (by omega) (by decide) (by decide)]
    have d2 : nI (en p) / (2000 : Int32) = nI (p.2 / 2) := by rw [fa_lit 2000, pk_div (by omega) (by decide) (by decide), z2]
    have r2 : nI (p.2 / 2) - nI (p.2 / 2) / (2 : Int32) * (2 : Int32) = nI (p.2 / 2 % 2) := by rw [fa_lit 2, pk_rem (by omega) (by decide) (by decide)]
    have d4 : nI (en p) / (4000 : Int32) = nI (p.2 / 4) := by rw [fa_lit 4000, pk_div (by omega) (by decide) (by decide), z4]
    rw [f_L_arePortions_L6, cN (n := 0) (by decide), h.1, if_neg (nI_ge (by omega) (by omega)), if_neg n10, nI_1, gd_t (nI_in (by omega) (by decide)), v_cl (by omega), hC, lt_v, Q_portionOf, Q_portionOf, Q_portionOf, Q_portionOf, Q_portionOf, a0, a1, a2, a3, a4, Option.bind_some, r0, if_pos rfl, Option.bind_some, d1, r1, if_pos rfl, Option.bind_some, d2, r2, if_pos rfl, Option.bind_some, d4, if_pos rfl, Option.bind_some, hfl, Option.bind_some, if_pos rfl, f_L_arePortions_J121, nI_1, lt_v, ih']
theorem S_por {w : Nat} {L : List (Nat × Nat)} (hw : w < 2) (hL : (if w = 0 then v_ch σ else v_ba σ) = L) (h : rwE L C) (hok : okE L) (hlen : L.length ≤ 63) (hs : stE (v_st σ) G) (hv : stK (v_st σ)) : f_L_arePortions (nI w) G C σ = some 1 := by
  have e1 := S_por_L hw hL h hok hlen hs hv L.length 0 FU (by omega) (by show _ < 20000; omega)
  have e2 : f_L_arePortions (nI w) G C σ = f_L_arePortions_J129 G C σ (nI w) 1 := e1
  have b1 : A_portionOf (nI w) (nI L.length) (0 : Int32) σ = cNF := by
    have := ap_ok (σ := σ) (i := L.length) (j := 0) hw (by omega) (by decide)
    rw [hL, if_neg (by omega)] at this
    exact this
  have b2 : A_portionOf (nI w) (0 : Int32) (5 : Int32) σ = cIA := by rw [A_portionOf, if_pos (two01 hw), if_neg (by decide), if_pos (by decide)]
  have e6 : (6 : Int32) + nI w = nI (6 + w) := nI_add 6 w
  have b3 : A_count (nI (6 + w)) σ = nI (tot L) := by
    rw [← hL]
    rcases (show w = 0 ∨ w = 1 by omega) with rfl | rfl
    · rfl
    · rfl
  have n6 : ¬ nI (6 + w) = 10 := fun q => by
    have := (nI_eq (a := 6 + w) (b := 10) (by omega) (by decide)).mp q
    omega
  rw [e2, f_L_arePortions_J129, if_neg n10, cN (n := 0) (by decide), h.1, Q_portionOf, Q_portionOf, b1, b2, Option.bind_some, if_pos rfl, Option.bind_some, if_pos rfl, e6, Q_count, gd_t n6, b3, Option.bind_some, L_amounts h hok hlen, Option.bind_some, if_pos rfl]
theorem S_bur {i fu : Nat} (hR : LR σ G U H C E T X) (hk : KK σ n) (hi : i < 2) : f_L_isSo_L32 G U H C E T X σ (fu + 1) 1 (nI i) = f_L_isSo_L32 G U H C E T X σ fu 1 (nI (i + 1)) := by
  have k11 := hk.2.2.2.2.2.2.2.2.2.2.1
  have k12 := hk.2.2.2.2.2.2.2.2.2.2.2.1
  have hx : ∃ x : Bu, buE i x U ∧ buK x ∧ (if nI i = 0 then v_b0 σ else v_b1 σ) = x := by
    rcases (show i = 0 ∨ i = 1 by omega) with rfl | rfl
    · exact ⟨_, hR.2.1, k11, if_pos nI_0⟩
    · exact ⟨_, hR.2.2.1, k12, if_neg (by decide)⟩
  obtain ⟨x, hx, hxk, hxe⟩ := hx
  have ab : ∀ j : Nat, j ≤ 4 → A_burrOf (nI i) (nI j) σ = tlB x j := fun j hj => by
    rw [A_burrOf, if_pos (two01 hi), if_neg (show ¬ (nI j < 0 ∨ (4 : Int32) < nI j) from hi_no (n := 4) hj (by decide)), hxe, nx_n (by omega)]
  have a0 : A_burrOf (nI i) (0 : Int32) σ = nI x.1 := ab 0 (by decide)
  have a1 : A_burrOf (nI i) (1 : Int32) σ = nI x.2.1 := ab 1 (by decide)
  have a2 : A_burrOf (nI i) (2 : Int32) σ = nI (gp x.1 x.2.1) := ab 2 (by decide)
  have a3 : A_burrOf (nI i) (3 : Int32) σ = x.2.2.1 := ab 3 (by decide)
  have a4 : A_burrOf (nI i) (4 : Int32) σ = x.2.2.2 := ab 4 (by decide)
  have i0 : (4 : Int32) * nI i = nI (4 * i) := by rw [fa_lit 4, pk_mul]
  have i1 : nI (4 * i) + (1 : Int32) = nI (4 * i + 1) := nI_1 _
  have i2 : nI (4 * i) + (2 : Int32) = nI (4 * i + 2) := by rw [fa_lit 2, nI_add]
  have i3 : nI (4 * i) + (3 : Int32) = nI (4 * i + 3) := by rw [fa_lit 3, nI_add]
  have g0 : ¬ (nI (4 * i) < 0 ∨ 8 ≤ (nI (4 * i)).toNatClampNeg) := nI_in (by omega) (by decide)
  have g1 : ¬ (nI (4 * i + 1) < 0 ∨ 8 ≤ (nI (4 * i + 1)).toNatClampNeg) := nI_in (by omega) (by decide)
  have g2 : ¬ (nI (4 * i + 2) < 0 ∨ 8 ≤ (nI (4 * i + 2)).toNatClampNeg) := nI_in (by omega) (by decide)
  have g3 : ¬ (nI (4 * i + 3) < 0 ∨ 8 ≤ (nI (4 * i + 3)).toNatClampNeg) := nI_in (by omega) (by decide)
  have c0 : (nI (4 * i)).toNatClampNeg = 4 * i := v_cl (by omega)
  have c1 : (nI (4 * i + 1)).toNatClampNeg = 4 * i + 1 := v_cl (by omega)
  have c2 : (nI (4 * i + 2)).toNatClampNeg = 4 * i + 2 := v_cl (by omega)
  have c3 : (nI (4 * i + 3)).toNatClampNeg = 4 * i + 3 := v_cl (by omega)
  have hg := L_gap (d := x.1) (w := x.2.1) (by have := hxk.2.1; omega) (by have := hxk.2.2; omega)
  have u0 : U (nI (4 * i)).toNatClampNeg = nI x.1 := by rw [c0]; exact hx.1
  have u1 : U (nI (4 * i + 1)).toNatClampNeg = nI x.2.1 := by rw [c1]; exact hx.2.1
  have u2 : U (nI (4 * i + 2)).toNatClampNeg = x.2.2.1 := by rw [c2]; exact hx.2.2.1
  have u3 : U (nI (4 * i + 3)).toNatClampNeg = x.2.2.2 := by rw [c3]; exact hx.2.2.2
  rw [f_L_isSo_L32, if_neg (show ¬ (2 : Int32) ≤ nI i from nI_ge (b := 2) hi (by decide)), if_neg n10, i0, i1, i2, i3, Q_burrOf, Q_burrOf, Q_burrOf, Q_burrOf, Q_burrOf, a0, a1, a2, a3, a4, u0, u1, u2, u3, hg, Option.bind_some, gd_t g0, if_pos rfl, Option.bind_some, gd_t g1, if_pos rfl, Option.bind_some, gd_t g0, gd_t g1, Option.bind_some, if_pos rfl, Option.bind_some, gd_t g2, if_pos rfl, Option.bind_some, gd_t g3, if_pos rfl, f_L_isSo_J145, nI_1, lt_v]
theorem S_lot (hR : LR σ G U H C E T X) (hk : KK σ n) : ∀ (m i fuel : Nat), i + m = 12 → m < fuel → f_L_isSo_L156 G U H C E T X σ fuel 1 (nI i) = f_L_isSo_J216 G U H C E T X σ 1 := by
  have m1 := hR.1
  have k4 := hk.2.2.2.1
  intro m
  induction m with
  | zero =>
    intro i fuel hi hf
    obtain ⟨fu, rfl⟩ : ∃ fu, fuel = fu + 1 := ⟨fuel - 1, by omega⟩
    rw [f_L_isSo_L156, if_pos (by rw [fa_L]; exact nI_le (by omega) (by omega))]
  | succ m ih =>
    intro i fuel hi hf
    obtain ⟨fu, rfl⟩ : ∃ fu, fuel = fu + 1 := ⟨fuel - 1, by omega⟩
    have d2 : nI i / (2 : Int32) = nI (i / 2) := pk_div (a := i) (d := 2) (by omega) (by decide) (by decide)
    have r2 : nI i - nI (i / 2) * (2 : Int32) = nI (i % 2) := by
      have := pk_rem (a := i) (d := 2) (by omega) (by decide) (by decide)
      rw [← d2]
      exact this
    have hq : Q_lotOf (nI (i / 2)) (nI (i % 2)) σ = some (if i / 2 < (v_lo σ).length then (if nI (i % 2) = 0 then nI (lk (v_lo σ) (i / 2)).2 else nI (lk (v_lo σ) (i / 2)).1) else cNF) := by
      rw [Q_lotOf, A_lotOf, if_neg (nI_pos (by omega)), if_neg (show ¬ (nI (i % 2) < 0 ∨ (1 : Int32) < nI (i % 2)) from hi_no (n := 1) (by omega) (by decide)), nx_n (by omega)]
    rw [f_L_isSo_L156, if_neg (by rw [fa_L]; exact nI_ge (by omega) (by decide)), if_neg n10, d2, r2, hq, Option.bind_some, cN (n := 13) (by decide), m1.1]
    by_cases c : i / 2 < (v_lo σ).length
    · have hv : H i = (if nI (i % 2) = 0 then nI (lk (v_lo σ) (i / 2)).2 else nI (lk (v_lo σ) (i / 2)).1) := by
        have h := m1.2 (i / 2) c
        rcases (show i % 2 = 0 ∨ i % 2 = 1 by omega) with e | e
        · rw [e, if_pos nI_0, ← h.1]; congr 1; omega
        · rw [e, if_neg (by decide), ← h.2]; congr 1; omega
      rw [if_neg (nI_ge c (by omega)), if_pos c, gd_t (nI_in (by omega) (by decide)), v_cl (by omega), hv, f_L_isSo_J200, if_pos rfl, f_L_isSo_J208, nI_1, lt_v, ih (i + 1) fu (by omega) (by omega)]
    · rw [if_pos (nI_le (by omega) (by omega)), if_neg c, f_L_isSo_J200, if_pos rfl, f_L_isSo_J208, nI_1, lt_v, ih (i + 1) fu (by omega) (by omega)]
theorem S_sht (hR : LR σ G U H C E T X) (hP : PI σ n) : ∀ (m i fuel : Nat), i + m = 12 → m < fuel → f_L_isSo_L219 G U H C E T X σ fuel 1 (nI i) = f_L_isSo_J494 G U H C E T X σ 1 := by
  obtain ⟨m1, m2, m3, m4, m5, m6, m7, m8, m9, m10, m11, m12, m13, m14, m15⟩ := id hR
  obtain ⟨hk, hc, hl, hK, hT⟩ := id hP
  have k13 := hk.2.2.2.2.2.2.2.2.2.2.2.2.1
  intro m
  induction m with
  | zero =>
    intro i fuel hi hf
    obtain ⟨fu, rfl⟩ : ∃ fu, fuel = fu + 1 := ⟨fuel - 1, by omega⟩
    rw [f_L_isSo_L219, if_pos (by rw [fa_L]; exact nI_le (by omega) (by omega))]
  | succ m ih =>
    intro i fuel hi hf
    obtain ⟨fu, rfl⟩ : ∃ fu, fuel = fu + 1 := ⟨fuel - 1, by omega⟩
    have ih' := ih (i + 1) fu (by omega) (by omega)
    have aq : ∀ j : Nat, j ≤ 7 → A_shotOf (nI i) (nI j) σ = if i < (v_K σ).length then shOf (sk0 (v_K σ) i) (v_st σ 0) j else cNF := fun j hj => by
      rw [A_shotOf, if_neg (nI_pos (by omega)), if_neg (show ¬ (nI j < 0 ∨ (7 : Int32) < nI j) from hi_no (n := 7) hj (by decide)), nx_n (by omega), nx_n (by omega)]
    rw [f_L_isSo_L219, if_neg (by rw [fa_L]; exact nI_ge (by omega) (by decide)), if_neg n10, cN (n := 14) (by decide), m7]
    by_cases c : i < (v_K σ).length
    · have aq' : ∀ j : Nat, j ≤ 7 → A_shotOf (nI i) (nI j) σ = shOf (sk0 (v_K σ) i) (v_st σ 0) j := fun j hj => by rw [aq j hj, if_pos c]
      have q0 : A_shotOf (nI i) (0 : Int32) σ = (sk0 (v_K σ) i).1 := aq' 0 (by decide)
      have q1 : A_shotOf (nI i) (1 : Int32) σ = nI (sk0 (v_K σ) i).2.1 := aq' 1 (by decide)
      have q2 : A_shotOf (nI i) (2 : Int32) σ = (sk0 (v_K σ) i).2.2.1 := aq' 2 (by decide)
      have q3 : A_shotOf (nI i) (3 : Int32) σ = (sk0 (v_K σ) i).2.2.2.1 := aq' 3 (by decide)
      have q4 : A_shotOf (nI i) (4 : Int32) σ = (sk0 (v_K σ) i).2.2.2.2.1 := aq' 4 (by decide)
      have q5 : A_shotOf (nI i) (5 : Int32) σ = nI (aw (sk0 (v_K σ) i).2.1 (v_st σ 0)) := aq' 5 (by decide)
      have q6 : A_shotOf (nI i) (6 : Int32) σ = (sk0 (v_K σ) i).2.2.2.2.2.1 := aq' 6 (by decide)
      have q7 : A_shotOf (nI i) (7 : Int32) σ = (sk0 (v_K σ) i).2.2.2.2.2.2 := aq' 7 (by decide)
      obtain ⟨t0, t1, t2, x0, x1, x2, x3⟩ := m6 i c
      have ht := hT i c
      have e3 : (3 : Int32) * nI i = nI (3 * i) := by rw [fa_lit 3, pk_mul]
      have e4 : (4 : Int32) * nI i = nI (4 * i) := by rw [fa_lit 4, pk_mul]
      have e31 : nI (3 * i) + (1 : Int32) = nI (3 * i + 1) := nI_1 _
      have e32 : nI (3 * i) + (2 : Int32) = nI (3 * i + 2) := by rw [fa_lit 2, nI_add]
      have e41 : nI (4 * i) + (1 : Int32) = nI (4 * i + 1) := nI_1 _
      have e42 : nI (4 * i) + (2 : Int32) = nI (4 * i + 2) := by rw [fa_lit 2, nI_add]
      have e43 : nI (4 * i) + (3 : Int32) = nI (4 * i + 3) := by rw [fa_lit 3, nI_add]
      have haw := L_away (G := G) (m9 0 (by decide)) (t := (sk0 (v_K σ) i).2.1) (by omega) (by have := k13.2.1; omega)
      rw [if_neg (nI_ge c (by omega)), f_L_isSo_J245, Q_shotOf, q0, Option.bind_some, if_neg n10, e3, gd_t (nI_in (by omega) (by decide)), v_cl (by omega), t0,
        f_L_isSo_J271, if_pos rfl, Q_shotOf, q1, Option.bind_some, if_neg n10, e3, e31, gd_t (nI_in (by omega) (by decide)), v_cl (by omega), t1,
        f_L_isSo_J300, if_pos rfl, Q_shotOf, q2, Option.bind_some, if_neg n10, e3, e32, gd_t (nI_in (by omega) (by decide)), v_cl (by omega), t2,
        f_L_isSo_J329, if_pos rfl, Q_shotOf, q3, Option.bind_some, if_neg n10, e4, gd_t (nI_in (by omega) (by decide)), v_cl (by omega), x0,
        f_L_isSo_J356, if_pos rfl, Q_shotOf, q4, Option.bind_some, if_neg n10, e4, e41, gd_t (nI_in (by omega) (by decide)), v_cl (by omega), x1,
        f_L_isSo_J385, if_pos rfl, Q_shotOf, q5, Option.bind_some, if_neg n10, e3, e31, gd_t (nI_in (by omega) (by decide)), v_cl (by omega), t1, haw, Option.bind_some,
        f_L_isSo_J418, if_pos rfl, Q_shotOf, q6, Option.bind_some, if_neg n10, e4, e42, gd_t (nI_in (by omega) (by decide)), v_cl (by omega), x2,
        f_L_isSo_J448, if_pos rfl, Q_shotOf, q7, Option.bind_some, if_neg n10, e4, e43, gd_t (nI_in (by omega) (by decide)), v_cl (by omega), x3,
        f_L_isSo_J478, if_pos rfl, f_L_isSo_J486, nI_1, lt_v, ih']
    · have aq' : ∀ j : Nat, j ≤ 7 → A_shotOf (nI i) (nI j) σ = cNF := fun j hj => by rw [aq j hj, if_neg c]
      have q0 : A_shotOf (nI i) (0 : Int32) σ = cNF := aq' 0 (by decide)
      have q1 : A_shotOf (nI i) (1 : Int32) σ = cNF := aq' 1 (by decide)
      have q2 : A_shotOf (nI i) (2 : Int32) σ = cNF := aq' 2 (by decide)
      have q3 : A_shotOf (nI i) (3 : Int32) σ = cNF := aq' 3 (by decide)
      have q4 : A_shotOf (nI i) (4 : Int32) σ = cNF := aq' 4 (by decide)
      have q5 : A_shotOf (nI i) (5 : Int32) σ = cNF := aq' 5 (by decide)
      have q6 : A_shotOf (nI i) (6 : Int32) σ = cNF := aq' 6 (by decide)
      have q7 : A_shotOf (nI i) (7 : Int32) σ = cNF := aq' 7 (by decide)
      rw [if_pos (nI_le (by omega) (by omega)), f_L_isSo_J245, Q_shotOf, q0, Option.bind_some, if_pos rfl, f_L_isSo_J271, if_pos rfl, Q_shotOf, q1, Option.bind_some, if_pos rfl, f_L_isSo_J300, if_pos rfl, Q_shotOf, q2, Option.bind_some, if_pos rfl, f_L_isSo_J329, if_pos rfl, Q_shotOf, q3, Option.bind_some, if_pos rfl, f_L_isSo_J356, if_pos rfl, Q_shotOf, q4, Option.bind_some, if_pos rfl, f_L_isSo_J385, if_pos rfl, Q_shotOf, q5, Option.bind_some, if_pos rfl, f_L_isSo_J418, if_pos rfl, Q_shotOf, q6, Option.bind_some, if_pos rfl, f_L_isSo_J448, if_pos rfl, Q_shotOf, q7, Option.bind_some, if_pos rfl, f_L_isSo_J478, if_pos rfl, f_L_isSo_J486, nI_1, lt_v, ih']
theorem S_stt (hR : LR σ G U H C E T X) : ∀ (m i fuel : Nat), i + m = 6 → m < fuel → f_L_isSo_L497 G U H C E T X σ fuel 1 (nI i) = f_L_isSo_J541 G U H C E T X σ 1 := by
  have m9 := hR.2.2.2.2.2.2.2.2.1
  intro m
  induction m with
  | zero =>
    intro i fuel hi hf
    obtain ⟨fu, rfl⟩ : ∃ fu, fuel = fu + 1 := ⟨fuel - 1, by omega⟩
    rw [f_L_isSo_L497, if_pos (by rw [fa_L]; exact nI_le (by omega) (by omega))]
  | succ m ih =>
    intro i fuel hi hf
    obtain ⟨fu, rfl⟩ : ∃ fu, fuel = fu + 1 := ⟨fuel - 1, by omega⟩
    have e20 : (20 : Int32) + nI i = nI (20 + i) := nI_add 20 i
    have e7 : (7 : Int32) + nI i = nI (7 + i) := nI_add 7 i
    have nn : ∀ k : Nat, k < 20 → ¬ nI (20 + i) = nI k := fun k hk q => by
      have := (nI_eq (by omega) (by omega)).mp q
      omega
    have hq : Q_count (nI (20 + i)) σ = some (nI (v_st σ i)) := by
      rw [Q_count, gd_t (show ¬ nI (20 + i) = (10 : Int32) from nn 10 (by decide)), A_count, if_neg (show ¬ nI (20 + i) = (0 : Int32) from nn 0 (by decide)), if_neg (show ¬ nI (20 + i) = (1 : Int32) from nn 1 (by decide)), if_neg (show ¬ nI (20 + i) = (2 : Int32) from nn 2 (by decide)), if_neg (show ¬ nI (20 + i) = (3 : Int32) from nn 3 (by decide)), if_neg (show ¬ nI (20 + i) = (4 : Int32) from nn 4 (by decide)), if_neg (show ¬ nI (20 + i) = (5 : Int32) from nn 5 (by decide)), if_neg (show ¬ nI (20 + i) = (6 : Int32) from nn 6 (by decide)), if_neg (show ¬ nI (20 + i) = (7 : Int32) from nn 7 (by decide)), if_neg (show ¬ nI (20 + i) = (8 : Int32) from nn 8 (by decide)), if_neg (show ¬ nI (20 + i) = (9 : Int32) from nn 9 (by decide)), if_neg (show ¬ nI (20 + i) = (11 : Int32) from nn 11 (by decide)), if_neg (show ¬ nI (20 + i) < (20 : Int32) from nI_nlt (b := 20) (a := 20 + i) (by omega) (by omega)), nx_n (by omega), if_pos (by omega), Nat.add_sub_cancel_left]
    rw [f_L_isSo_L497, if_neg (by rw [fa_L]; exact nI_ge (by omega) (by decide)), if_neg n10, e20, hq, Option.bind_some, e7, gd_t (nI_in (by omega) (by decide)), v_cl (by omega), m9 i (by omega), if_pos rfl, f_L_isSo_J533, nI_1, lt_v, ih (i + 1) fu (by omega) (by omega)]
theorem S_isSo (hR : LR σ G U H C E T X) (hP : PI σ 53) : f_L_isSo G U H C E T X σ = some 1 := by
  obtain ⟨m1, m2, m3, m4, m5, m6, m7, m8, m9, m10, m11, m12, m13, m14, m15⟩ := id hR
  obtain ⟨hk, hc, hl, hK, hT⟩ := id hP
  obtain ⟨k1, k2, k3, k4, k5, k6, k7, k8, k9, k10, k11, k12, k13, k14⟩ := id hk
  obtain ⟨s1, s2, s3⟩ := hc
  have okC : okE (v_ch σ) := okE_of k5 k6 (by omega)
  have okB : okE (v_ba σ) := okE_of k8 k9 (by omega)
  have p0 : f_L_arePortions (0 : Int32) G C σ = some 1 := S_por (w := 0) (by decide) (if_pos rfl) m4 okC (by omega) m9 k13
  have p1 : f_L_arePortions (1 : Int32) G E σ = some 1 := S_por (w := 1) (by decide) (if_neg (by decide)) m5 okB (by omega) m9 k13
  have hFU : FU = 19997 + 1 + 1 + 1 := rfl
  have b0 : f_L_isSo_L32 G U H C E T X σ FU 1 (0 : Int32) = f_L_isSo_J153 G U H C E T X σ 1 := by
    have q0 := S_bur (i := 0) (fu := 19997 + 1 + 1) hR hk (by decide)
    have q1 := S_bur (i := 1) (fu := 19997 + 1) hR hk (by decide)
    rw [hFU]
    refine (q0.trans q1).trans ?_
    rw [f_L_isSo_L32, if_pos (show (2 : Int32) ≤ nI (1 + 1) from nI_le (a := 2) (by decide) (by decide))]
  have b1 : f_L_isSo_J153 G U H C E T X σ 1 = f_L_isSo_J216 G U H C E T X σ 1 := S_lot hR hk 12 0 FU (by decide) (by show 12 < 20000; omega)
  have b2 : f_L_isSo_J216 G U H C E T X σ 1 = f_L_isSo_J494 G U H C E T X σ 1 := S_sht hR hP 12 0 FU (by decide) (by show 12 < 20000; omega)
  have b3 : f_L_isSo_J494 G U H C E T X σ 1 = f_L_isSo_J541 G U H C E T X σ 1 := S_stt hR 6 0 FU (by decide) (by show 6 < 20000; omega)
  have qc : ∀ x : Int32, ¬ x = 10 → Q_count x σ = some (A_count x σ) := fun x hx => by rw [Q_count, gd_t hx]
  have z0 : Q_count (0 : Int32) σ = some (nI (v_se σ)) := qc 0 (by decide)
  have z1 : Q_count (1 : Int32) σ = some (v_fi σ) := qc 1 (by decide)
  have z2 : Q_count (2 : Int32) σ = some (v_gr σ) := qc 2 (by decide)
  have z3 : Q_count (3 : Int32) σ = some (v_br σ) := qc 3 (by decide)
  have z4 : Q_count (4 : Int32) σ = some (v_pu σ) := qc 4 (by decide)
  have z5 : Q_count (5 : Int32) σ = some (nI (tot (v_lo σ))) := qc 5 (by decide)
  have z6 : Q_count (6 : Int32) σ = some (nI (tot (v_ch σ))) := qc 6 (by decide)
  have z7 : Q_count (7 : Int32) σ = some (nI (tot (v_ba σ))) := qc 7 (by decide)
  have z8 : Q_count (8 : Int32) σ = some (v_mk σ) := qc 8 (by decide)
  have z9 : Q_count (9 : Int32) σ = some (v_nr σ) := qc 9 (by decide)
  have z11 : Q_count (11 : Int32) σ = some 0 := qc 11 (by decide)
  have g0 : Q_burrOf (0 : Int32) (3 : Int32) σ = some (v_b0 σ).2.2.1 := by rw [Q_burrOf, A_burrOf, if_pos (by decide), if_neg (by decide), if_pos rfl]; rfl
  have g1 : Q_burrOf (1 : Int32) (3 : Int32) σ = some (v_b1 σ).2.2.1 := by rw [Q_burrOf, A_burrOf, if_pos (by decide), if_neg (by decide), if_neg (by decide)]; rfl
  have hs : Q_shotOf (12 : Int32) (0 : Int32) σ = some cNF := by
    rw [Q_shotOf, A_shotOf, if_neg (by decide), if_neg (by decide), if_neg (show ¬ nx (12 : Int32) < (v_K σ).length from ?_)]
    rw [show nx (12 : Int32) = 12 from nx_n (n := 12) (by decide)]
    omega
  have b4 : f_L_isSo_J541 G U H C E T X σ 1 = f_L_isSo_J624 G U H C E T X σ 1 := by
    rw [f_L_isSo_J541, if_neg n10, z2, z3, z4, z6, z7, z1, z5, g0, g1]
    simp only [Option.bind_some]
    rw [if_pos s1, if_pos s2, if_pos s3]
  have b5 : f_L_isSo_J624 G U H C E T X σ 1 = some 1 := by
    rw [f_L_isSo_J624, if_neg n10, z0, z1, z2, z3, z4, z5, z8, z9, z11, hs, L_hopper m1 k4]
    simp only [Option.bind_some]
    rw [cN (n := 0) (by decide), m10, if_pos rfl, cN (n := 1) (by decide), m11, if_pos rfl, cN (n := 2) (by decide), m12, if_pos rfl, cN (n := 3) (by decide), m13, if_pos rfl, cN (n := 4) (by decide), m14, if_pos rfl, if_pos trivial, cN (n := 5) (by decide), m8, if_pos rfl, cN (n := 6) (by decide), m15, if_pos rfl, if_pos trivial, if_pos trivial]
  rw [f_L_isSo, p0, Option.bind_some, if_neg n10, p1, Option.bind_some, if_neg n10, f_L_isSo_J27, b0, b1, b2, b3, b4, b5]
end IS
