/-! what the law does at a turn -/
/-- what is told once: all that was filled in is somewhere -/
def CS (σ : Sp) : Prop := v_gr σ = v_br σ + v_pu σ + nI (tot (v_ch σ)) + nI (tot (v_ba σ)) ∧ v_fi σ = v_gr σ + nI (tot (v_lo σ)) ∧ (v_b0 σ).2.2.1 + (v_b1 σ).2.2.1 = v_gr σ
def PI (σ : Sp) (n : Nat) : Prop := KK σ (v_se σ) ∧ CS σ ∧ (v_ch σ).length + (v_ba σ).length ≤ n ∧ (v_K σ).length ≤ 12 ∧ ∀ k : Nat, k < (v_K σ).length → (sk0 (v_K σ) k).2.1 ≤ 30000
theorem csA {x y : Int32} {p q p' q' a : Nat} (h : x = y + nI p + nI q) (e : p' + q' = p + q + a) : x + nI a = y + nI p' + nI q' := by
  rw [h, Int32.add_assoc y, nI_add, Int32.add_assoc y (nI p'), nI_add, e, Int32.add_assoc, nI_add]
theorem csB {x y : Int32} {p p' a : Nat} (h : x = y + nI p) (e : p = p' + a) : x = y + nI a + nI p' := by
  rw [h, e, Int32.add_assoc, nI_add, Nat.add_comm]
theorem tk_len2 : ∀ (L : List (Nat × Nat)) (l : Nat), (tk l L).1.length + (tk l L).2.length ≤ L.length + 1
  | [], l => by simp [tk]
  | p :: L, l => by
    rw [tk]
    split
    · simp only [List.length_cons, List.length_nil]; omega
    · split
      · simp only [List.length_cons, List.length_nil]; omega
      · have h := tk_len2 L (l - p.1)
        simp only [List.length_cons]
        omega
theorem CS_fill {σ : Sp} {k a : Nat} (h : CS σ) : CS (o_fill k a σ) := by
  obtain ⟨h1, h2, h3⟩ := h
  refine ⟨h1, ?_, h3⟩
  show v_fi σ + nI a = v_gr σ + nI (tot (pour k a (v_lo σ)))
  rw [pour_tot, h2, Int32.add_assoc, nI_add]
theorem CS_grind {σ : Sp} {b a : Nat} (h : CS σ) (hl : a ≤ tot (v_lo σ)) : CS (o_grind b a σ) := by
  obtain ⟨h1, h2, h3⟩ := h
  have t1 := g_in_tot (ch := v_ch σ) (d := (bsel (v_b0 σ) (v_b1 σ) b).1) (w := (bsel (v_b0 σ) (v_b1 σ) b).2.1) (b := b) hl
  have t2 := tk_tot (g_in (v_lo σ) (v_ch σ) (bsel (v_b0 σ) (v_b1 σ) b).1 (bsel (v_b0 σ) (v_b1 σ) b).2.1 b a) (g_out (v_ch σ) a (v_st σ 2))
  have t3 := tk_tot (v_lo σ) a
  have t4 : g_out (v_ch σ) a (v_st σ 2) = tot (v_ch σ) + a - v_st σ 2 := rfl
  refine ⟨csA h1 ?_, csB h2 ?_, ?_⟩
  · show tot (tk _ _).2 + tot (v_ba σ ++ (tk _ _).1) = _
    rw [tot_app, t2.1, t2.2, t1]
    omega
  · show tot (v_lo σ) = tot (tk a (v_lo σ)).2 + a
    rw [t3.2]
    omega
  · show (bg0 (v_b0 σ) b a _).2.2.1 + (bg1 (v_b1 σ) b a _).2.2.1 = v_gr σ + nI a
    unfold bg0 bg1 buC buG
    by_cases c : b = 0
    · rw [if_pos c, if_pos c, ← h3]
      show (v_b0 σ).2.2.1 + nI a + (v_b1 σ).2.2.1 = _
      ac_rfl
    · rw [if_neg c, if_neg c, ← h3]
      show (v_b0 σ).2.2.1 + ((v_b1 σ).2.2.1 + nI a) = _
      ac_rfl
theorem CS_shot {σ : Sp} (h : CS σ) : CS (o_shot σ) := by
  obtain ⟨h1, h2, h3⟩ := h
  refine ⟨?_, h2, ?_⟩
  · show v_gr σ = v_br σ + nI (tot (v_ba σ)) + v_pu σ + nI (tot (v_ch σ)) + nI 0
    rw [nI_0, Int32.add_zero, h1]
    ac_rfl
  · show (bs0 (v_st σ) _ _ _ (v_b0 σ)).2.2.1 + (bs1 (v_st σ) _ _ _ (v_b1 σ)).2.2.1 = v_gr σ
    unfold bs0 bs1 buC
    rw [← h3]
    by_cases c : mostly isB (v_ba σ) = 0
    · rw [if_pos c, if_pos c]
      show (buJ _ _ (v_b0 σ)).2.2.1 + (v_b1 σ).2.2.1 = _
      rw [buJ_g]
    · rw [if_neg c, if_neg c]
      show (v_b0 σ).2.2.1 + (buJ _ _ (v_b1 σ)).2.2.1 = _
      rw [buJ_g]
theorem CS_purge {σ : Sp} (h : CS σ) : CS (o_purge σ) := by
  obtain ⟨h1, h2, h3⟩ := h
  refine ⟨?_, h2, h3⟩
  show v_gr σ = v_br σ + (v_pu σ + nI (tot (v_ch σ))) + nI 0 + nI (tot (v_ba σ))
  rw [nI_0, Int32.add_zero, h1]
  ac_rfl
theorem CS_dial {σ : Sp} {b d : Nat} (h : CS σ) : CS (o_dial b d σ) := by
  obtain ⟨h1, h2, h3⟩ := h
  refine ⟨h1, h2, ?_⟩
  show (if b = 0 then (d, (v_b0 σ).2) else v_b0 σ).2.2.1 + (if b = 0 then v_b1 σ else (d, (v_b1 σ).2)).2.2.1 = v_gr σ
  by_cases c : b = 0
  · rw [if_pos c, if_pos c]; exact h3
  · rw [if_neg c, if_neg c]; exact h3
theorem CS_corr {σ : Sp} {b : Nat} (h : CS σ) : CS (o_corr b σ) := by
  obtain ⟨h1, h2, h3⟩ := h
  refine ⟨h1, h2, ?_⟩
  show (if b = 0 then buX (v_b0 σ) (sk0 (v_K σ) 0).2.1 (v_st σ 0) else v_b0 σ).2.2.1 + (if b = 0 then v_b1 σ else buX (v_b1 σ) (sk0 (v_K σ) 0).2.1 (v_st σ 0)).2.2.1 = v_gr σ
  by_cases c : b = 0
  · rw [if_pos c, if_pos c]; exact h3
  · rw [if_neg c, if_neg c]; exact h3
/-! the answers at good arguments -/
theorem nx_n {n : Nat} (h : n < 2 ^ 31) : nx (nI n) = n := v_cl h
theorem af_full {k a : Nat} {L : List (Nat × Nat)} (hk : k < 2) (ha : 1 ≤ a) (ha2 : a ≤ 999) (h : full k a L) : a_fill (nI k) (nI a) L = cLR := by
  unfold a_fill
  rw [if_neg (good2 hk ha ha2 (by decide)), v_cl (by omega), v_cl (by omega), if_pos h]
theorem af_ok {k a : Nat} {L : List (Nat × Nat)} (hk : k < 2) (ha : 1 ≤ a) (ha2 : a ≤ 999) (h : ¬ full k a L) : a_fill (nI k) (nI a) L = nI (tot L + a) := by
  unfold a_fill
  rw [if_neg (good2 hk ha ha2 (by decide)), v_cl (by omega), v_cl (by omega), if_neg h]
theorem ad_ok {b d : Nat} {b0 b1 : Bu} (hb : b < 2) (hd : 1 ≤ d) (hd2 : d ≤ 60) : a_dial (nI b) (nI d) b0 b1 = nI (bsel b0 b1 b).1 := by
  unfold a_dial
  rw [if_neg (good2 hb hd hd2 (by decide)), v_cl (by omega)]
theorem ar_ok {n w0 w1 s : Nat} (hn : 1 ≤ n) (hn2 : n ≤ 999) : a_rest (nI n) w0 w1 s = nI (w0 + w1 - cl (tmz s n) w0 - cl (tmz s n) w1) := by
  unfold a_rest
  rw [if_neg (fun q => ?_), v_cl (by omega)]
  rcases q with q | q
  · exact nI_nlt (a := n) (b := 1) hn (by omega) q
  · exact nI_nlt (a := 999) (b := n) hn2 (by decide) q
theorem ac_ok {b g : Nat} {K : List Sh} {b0 b1 : Bu} (hb : b < 2) : a_corr (nI b) K b0 b1 g = if K.length = 0 then cNP else nI (cor (bsel b0 b1 b).1 (sk0 K 0).2.1 g) := by
  unfold a_corr
  have h : nI b = 0 ∨ nI b = 1 := by
    rcases (show b = 0 ∨ b = 1 by omega) with rfl | rfl
    · exact Or.inl nI_0
    · exact Or.inr rfl
  rw [if_neg (fun q => q h), nx_n (by omega)]
theorem as_ok {i a : Nat} {v : Nat → Nat} (hi : i < 6) (h1 : lsN i ≤ a) (h2 : a ≤ msN i) : a_set (nI i) (nI a) v = nI (v i) := by
  have hm := msN_le i
  have hl := lsN_le i
  unfold a_set
  rw [nx_n (by omega), if_neg (fun q => ?_), if_neg (fun q => ?_)]
  · rcases q with q | q
    · exact nI_nlt h1 (by omega) q
    · exact nI_nlt h2 (by omega) q
  · rcases q with q | q
    · exact nI_pos (by omega) q
    · omega
abbrev LAc : Type := Int32 × (Nat → Int32) × (Nat → Int32) × (Nat → Int32) × (Nat → Int32) × (Nat → Int32) × (Nat → Int32) × (Nat → Int32) × Sp
/-- a turn went well: the answer is 1, the arrays hold the new state -/
def OK (σ : Sp) (r : Option LAc) : Prop := ∃ G U H C E T X σ', r = some (1, G, U, H, C, E, T, X, σ') ∧ LR σ' G U H C E T X ∧ PI σ' 53 ∧ v_se σ' ≤ v_se σ + 3000
theorem PI.up {σ : Sp} {n m : Nat} (h : PI σ n) (hn : n ≤ m) : PI σ m := ⟨h.1, h.2.1, Nat.le_trans h.2.2.1 hn, h.2.2.2⟩
theorem QO_t {a : Int32} {σ σ' : Sp} (hs : v_se σ < 2 ^ 26) (h : 0 ≤ a) : QO a σ' σ = some (a, σ') := by rw [QO, gd_t (by omega), if_pos h]
theorem QO_f {a : Int32} {σ σ' : Sp} (hs : v_se σ < 2 ^ 26) (h : ¬ 0 ≤ a) : QO a σ' σ = some (a, σ) := by rw [QO, gd_t (by omega), if_neg h]
section LA
variable {σ : Sp} {G U H C E T X : Nat → Int32} {n : Nat}
theorem PI_shot (hP : PI σ n) (hb : tot (v_ba σ) ≠ 0) (hn : n ≤ 53 ∨ (v_ch σ).length ≤ 53) : PI (o_shot σ) 53 ∧ v_se (o_shot σ) ≤ v_se σ + 3000 := by
  obtain ⟨h1, h2, h3, h4, h5⟩ := hP
  have htm := timeS_le h1.2.2.2.2.2.2.2.2.2.2.2.2.1 (v_ba σ)
  refine ⟨⟨KK_self (K_shot h1), CS_shot h2, ?_, ?_, ?_⟩, ?_⟩
  · show (v_ch σ).length + 0 ≤ 53
    omega
  · show ((shotN (v_st σ) (v_ba σ) (v_mk σ) (v_se σ) :: v_K σ).take 12).length ≤ 12
    rw [List.length_take]
    omega
  · intro k hk
    have hk2 : k < ((shotN (v_st σ) (v_ba σ) (v_mk σ) (v_se σ) :: v_K σ).take 12).length := hk
    rw [List.length_take, List.length_cons] at hk2
    show (sk0 ((shotN (v_st σ) (v_ba σ) (v_mk σ) (v_se σ) :: v_K σ).take 12) k).2.1 ≤ 30000
    rw [sk0_t _ (by omega)]
    cases k with
    | zero => rw [sk0_0]; exact htm
    | succ k => rw [sk0_s]; exact h5 k (by omega)
  · show v_se σ + timeS (v_st σ) (v_ba σ) / 10 ≤ v_se σ + 3000
    omega
theorem A_shoots (hR : LR σ G U H C E T X) (hP : PI σ 53) (hs : v_se σ < 2 ^ 26) : ∃ G' U' E' T' X' σ', f_L_shoots G U E T X σ = some (1, G', U', E', T', X', σ') ∧ LR σ' G' U' H C E' T' X' ∧ PI σ' 53 ∧ v_se σ' ≤ v_se σ + 3000 := by
  obtain ⟨G', U', E', T', X', σ', a1, a2, a3⟩ := L_shoots hR hP.1 hs hP.2.2.2.1 (by have := hP.2.2.1; omega)
  refine ⟨G', U', E', T', X', σ', a1, a2, ?_⟩
  rcases a3 with rfl | ⟨rfl, hb⟩
  · exact ⟨hP, by omega⟩
  · exact PI_shot hP hb (Or.inl (Nat.le_refl _))
theorem A_purges (hR : LR σ G U H C E T X) (hP : PI σ 53) (hs : v_se σ < 2 ^ 26) : ∃ G' C' σ', f_L_purges G C σ = some (1, G', C', σ') ∧ LR σ' G' U H C' E T X ∧ PI σ' 53 ∧ v_se σ' ≤ v_se σ + 3000 := by
  obtain ⟨m1, m2, m3, m4, m5, m6, m7, m8, m9, m10, m11, m12, m13, m14, m15⟩ := hR
  obtain ⟨hk, hc, hl, hK, hT⟩ := hP
  obtain ⟨k1, k2, k3, k4, k5, k6, k7, k8, k9, k10, k11, k12, k13, k14⟩ := id hk
  have okC : okE (v_ch σ) := okE_of k5 k6 (by omega)
  have hQ : Q_purge σ = some (nI (tot (v_ch σ)), o_purge σ) := QO_t hs (nI_pos' (by omega))
  refine ⟨upd G 4 (v_pu σ + nI (tot (v_ch σ))), upd C 0 0, o_purge σ, ?_, ?_, ⟨KK_self (K_purge hk), CS_purge hc, ?_, hK, hT⟩, ?_⟩
  · rw [f_L_purges, L_amounts m4 okC (by omega), Option.bind_some]
    simp only [lt_v, cN (n := 0) (by decide), cN (n := 4) (by decide)]
    rw [m14, hQ, Option.bind_some, if_pos rfl]
  · refine ⟨⟨(pk_un (by decide)).trans m1.1, m1.2⟩, m2, m3, ⟨pk_us, fun k hk => absurd hk (Nat.not_lt_zero k)⟩, m5, m6, (pk_un (by decide)).trans m7, (pk_un (by decide)).trans m8, fun k hk => (pk_un (by omega)).trans (m9 k hk), (pk_un (by decide)).trans m10, (pk_un (by decide)).trans m11, (pk_un (by decide)).trans m12, (pk_un (by decide)).trans m13, pk_us, (pk_un (by decide)).trans m15⟩
  · show 0 + (v_ba σ).length ≤ 53
    omega
  · show v_se σ ≤ v_se σ + 3000
    omega
/-- the hopper's rows behind a filling -/
theorem loE_app {L : List (Nat × Nat)} {k a : Nat} (h : loE L G H) : loE (L ++ [(a, k)]) (upd G 13 (nI (L.length + 1))) (upd (upd H (2 * L.length) (nI k)) (2 * L.length + 1) (nI a)) := by
  refine ⟨by rw [pk_us, List.length_append]; rfl, fun j hj => ?_⟩
  rw [List.length_append, List.length_singleton] at hj
  by_cases e : j = L.length
  · subst e
    have := lk_r (L := L) (K := [(a, k)]) (k := 0)
    rw [Nat.add_zero, lk_0] at this
    rw [this, pk_us, pk_un (by omega), pk_us]
    exact ⟨rfl, rfl⟩
  · rw [lk_l (by omega), pk_un (by omega), pk_un (by omega), pk_un (by omega), pk_un (by omega)]
    exact h.2 j (by omega)
theorem loE_last {L : List (Nat × Nat)} {x : Nat × Nat} {a : Nat} (h : loE (L ++ [x]) G H) : loE (L ++ [(x.1 + a, x.2)]) G (upd H (2 * L.length + 1) (nI (x.1 + a))) := by
  refine ⟨by rw [h.1, List.length_append, List.length_append]; rfl, fun j hj => ?_⟩
  rw [List.length_append, List.length_singleton] at hj
  have hj2 := h.2 j (by rw [List.length_append, List.length_singleton]; exact hj)
  by_cases e : j = L.length
  · subst e
    have e1 := lk_r (L := L) (K := [(x.1 + a, x.2)]) (k := 0)
    have e2 := lk_r (L := L) (K := [x]) (k := 0)
    rw [Nat.add_zero, lk_0] at e1 e2
    rw [e2] at hj2
    rw [e1, pk_us, pk_un (by omega)]
    exact ⟨hj2.1, rfl⟩
  · rw [lk_l (by omega)] at hj2 ⊢
    rw [pk_un (by omega), pk_un (by omega)]
    exact hj2
theorem A_235 {k a : Nat} (hR : LR σ G U H C E T X) (hP : PI σ 53) (hs : v_se σ < 2 ^ 26) (hk2 : k < 2) (ha : 1 ≤ a) (ha2 : a ≤ 999) (hf : ¬ full k a (v_lo σ)) {G1 H1 : Nat → Int32} (hlo : loE (pour k a (v_lo σ)) G1 H1) (hG : ∀ i, i ≠ 13 → G1 i = G i) : OK σ (f_L_acts_J235 (nI k) (nI a) G1 U H1 C E T X σ) := by
  obtain ⟨m1, m2, m3, m4, m5, m6, m7, m8, m9, m10, m11, m12, m13, m14, m15⟩ := hR
  obtain ⟨hk, hc, hl, hK, hT⟩ := hP
  have hq : a_fill (nI k) (nI a) (v_lo σ) = nI (tot (v_lo σ) + a) := af_ok hk2 ha ha2 hf
  have k3 := hk.2.2.1
  have h0 : 0 ≤ a_fill (nI k) (nI a) (v_lo σ) := by rw [hq]; exact nI_pos' (by omega)
  have hKK : KK (o_fill k a σ) (v_se σ) := by
    have := K_fill hk h0
    rw [nx_n (by omega), nx_n (by omega)] at this
    exact this
  have hQ : Q_fill (nI k) (nI a) σ = some (nI (tot (v_lo σ) + a), o_fill k a σ) := by
    rw [Q_fill, QO_t hs h0, hq, nx_n (by omega), nx_n (by omega)]
  have hlo2 : loE (pour k a (v_lo σ)) (upd G1 1 (v_fi σ + nI a)) H1 := ⟨(pk_un (by decide)).trans hlo.1, hlo.2⟩
  have e1 : G1 1 = v_fi σ := (hG 1 (by decide)).trans m11
  refine ⟨upd G1 1 (v_fi σ + nI a), U, H1, C, E, T, X, o_fill k a σ, ?_, ?_, ⟨hKK, CS_fill hc, hl, hK, hT⟩, ?_⟩
  · rw [f_L_acts_J235, cN (n := 1) (by decide), e1]
    simp only [lt_v]
    rw [hQ, Option.bind_some, L_hopper hlo2 hKK.2.2.2.1, Option.bind_some, pour_tot, if_pos rfl]
  · have gg : ∀ i, i ≠ 1 → i ≠ 13 → upd G1 1 (v_fi σ + nI a) i = G i := fun i i1 i13 => (pk_un i1).trans (hG i i13)
    exact ⟨hlo2, m2, m3, m4, m5, m6, (gg 14 (by decide) (by decide)).trans m7, (gg 5 (by decide) (by decide)).trans m8, fun k hk => (gg _ (by omega) (by omega)).trans (m9 k hk), (gg 0 (by decide) (by decide)).trans m10, pk_us, (gg 2 (by decide) (by decide)).trans m12, (gg 3 (by decide) (by decide)).trans m13, (gg 4 (by decide) (by decide)).trans m14, (gg 6 (by decide) (by decide)).trans m15⟩
  · show v_se σ ≤ v_se σ + 3000
    omega
theorem A_133 {k a : Nat} (hR : LR σ G U H C E T X) (hP : PI σ 53) (hs : v_se σ < 2 ^ 26) (hk2 : k < 2) (ha : 1 ≤ a) (ha2 : a ≤ 999) : OK σ (f_L_acts_J133 (nI k) (nI a) (if ends k (v_lo σ) then 1 else 0) G U H C E T X σ) := by
  have m1 := hR.1
  have k3 := hP.1.2.2.1
  have k4 := hP.1.2.2.2.1
  have h163 : full k a (v_lo σ) → OK σ (f_L_acts_J163 (nI k) (nI a) G U H C E T X σ) := fun hf => by
    have hq : a_fill (nI k) (nI a) (v_lo σ) = cLR := af_full hk2 ha ha2 hf
    refine ⟨G, U, H, C, E, T, X, σ, ?_, hR, hP, by omega⟩
    rw [f_L_acts_J163, Q_fill, hq, QO_f hs (by decide), Option.bind_some, if_pos rfl]
  have i0 : (2 : Int32) * nI (v_lo σ).length = nI (2 * (v_lo σ).length) := by rw [fa_lit 2, pk_mul]
  have h149 : ¬ (ends k (v_lo σ) = false ∧ (v_lo σ).length = 6) → OK σ (f_L_acts_J149 (nI k) (nI a) (if ends k (v_lo σ) then 1 else 0) G U H C E T X σ) := fun hn => by
    rw [f_L_acts_J149, L_hopper m1 k4, Option.bind_some, nI_add, fa_lit 4000]
    by_cases c : tot (v_lo σ) + a ≤ 4000
    · have hf : ¬ full k a (v_lo σ) := fun q => by
        rcases q with q | ⟨q1, q2⟩
        · omega
        · exact hn ⟨q2, by omega⟩
      rw [if_pos (nI_le c (by decide))]
      by_cases ce : ends k (v_lo σ) = true
      · have hne : v_lo σ ≠ [] := fun q => by rw [q] at ce; cases ce
        obtain ⟨L, x, hL⟩ := snoc_of (v_lo σ) hne
        have hx : x.2 = k := by
          rw [hL, ends_app] at ce
          exact eq_of_beq ce
        have hlen : (v_lo σ).length = L.length + 1 := by rw [hL, List.length_append]; rfl
        have hp : pour k a (v_lo σ) = L ++ [(x.1 + a, x.2)] := by
          unfold pour
          rw [if_pos ce, hL, List.dropLast_concat, hx]
          congr 3
          simp
        have hm1 : loE (L ++ [x]) G H := hL ▸ m1
        have hv : H (2 * L.length + 1) = nI x.1 := by
          have e2 := lk_r (L := L) (K := [x]) (k := 0)
          rw [Nat.add_zero, lk_0] at e2
          have := (hm1.2 L.length (by rw [List.length_append]; simp)).2
          rw [e2] at this
          exact this
        have ei : nI (2 * (v_lo σ).length) - (1 : Int32) = nI (2 * L.length + 1) := by
          rw [fa_lit 1, pk_sub (by omega)]
          exact nI_inj (by omega)
        have gi : ¬ (nI (2 * L.length + 1) < 0 ∨ 12 ≤ (nI (2 * L.length + 1)).toNatClampNeg) := nI_in (by omega) (by decide)
        rw [if_pos ce, if_neg n10, cN (n := 13) (by decide), m1.1, i0, ei]
        simp only [lt_v]
        rw [gd_t gi, gd_t gi, v_cl (by omega), hv, nI_add]
        exact A_235 hR hP hs hk2 ha ha2 hf (by rw [hp]; exact loE_last hm1) (fun i _ => rfl)
      · have hlen : (v_lo σ).length < 6 := Nat.lt_of_le_of_ne k4 (fun q => hn ⟨Bool.eq_false_iff.mpr ce, q⟩)
        have hp : pour k a (v_lo σ) = v_lo σ ++ [(a, k)] := by unfold pour; rw [if_neg ce]
        have g0 : ¬ (nI (2 * (v_lo σ).length) < 0 ∨ 12 ≤ (nI (2 * (v_lo σ).length)).toNatClampNeg) := nI_in (by omega) (by decide)
        have g1 : ¬ (nI (2 * (v_lo σ).length + 1) < 0 ∨ 12 ≤ (nI (2 * (v_lo σ).length + 1)).toNatClampNeg) := nI_in (by omega) (by decide)
        rw [if_neg ce, if_pos rfl]
        simp only [lt_v]
        rw [cN (n := 13) (by decide), m1.1, i0, nI_1, nI_1, gd_t g0, gd_t g1, v_cl (by omega), v_cl (by omega)]
        exact A_235 hR hP hs hk2 ha ha2 hf (by rw [hp]; exact loE_app m1) (fun i hi => pk_un hi)
    · rw [if_neg (nI_ge (by omega) (by omega))]
      exact h163 (Or.inl (by omega))
  rw [f_L_acts_J133]
  by_cases ce : ends k (v_lo σ) = true
  · have h := h149 (fun q => by rw [ce] at q; cases q.1)
    rw [if_pos ce] at h ⊢
    rw [if_neg n10]
    exact h
  · have cf : ends k (v_lo σ) = false := Bool.eq_false_iff.mpr ce
    rw [if_neg ce, if_pos rfl, cN (n := 13) (by decide), m1.1]
    by_cases c6 : (v_lo σ).length = 6
    · rw [if_pos (by rw [c6]; rfl)]
      exact h163 (Or.inr ⟨by omega, cf⟩)
    · have h := h149 (fun q => c6 q.2)
      rw [if_neg ce] at h
      rw [if_neg (show ¬ nI (v_lo σ).length = (6 : Int32) from fun q => c6 ((nI_eq (b := 6) (by omega) (by decide)).mp q))]
      exact h
theorem A_102 {k y m : Nat} (hR : LR σ G U H C E T X) (hP : PI σ 53) (hs : v_se σ < 2 ^ 26) (hk2 : k < 2) (hy : y < 2 ^ 30) (hm : 0 < m) (hm2 : m ≤ 999) : OK σ (f_L_acts_J102 (nI k) (nI m) (nI y) 1 G U H C E T X σ) := by
  have m1 := hR.1
  have k4 := hP.1.2.2.2.1
  have hy2 := Nat.mod_lt y hm
  have h133 := A_133 (k := k) (a := 1 + y % m) hR hP hs hk2 (by omega) (by omega)
  have i0 : (2 : Int32) * nI (v_lo σ).length = nI (2 * (v_lo σ).length) := by rw [fa_lit 2, pk_mul]
  rw [f_L_acts_J102, gd_t (nI_ne0 hm (by omega)), pk_rem (by omega) hm (by omega), fa_lit 1, nI_add, lt_v, cN (n := 13) (by decide), m1.1, i0]
  by_cases c0 : (v_lo σ).length = 0
  · have he : v_lo σ = [] := List.length_eq_zero_iff.mp c0
    rw [if_pos (by rw [c0, nI_0]; exact Int32.le_refl 0), f_L_acts_J132]
    rw [he] at h133
    exact h133
  · have ei : nI (2 * (v_lo σ).length) - (2 : Int32) = nI (2 * ((v_lo σ).length - 1)) := by
      rw [fa_lit 2, pk_sub (by omega)]
      exact nI_inj (by omega)
    have hv := (m1.2 ((v_lo σ).length - 1) (by omega)).1
    have hne : v_lo σ ≠ [] := fun q => c0 (by rw [q]; rfl)
    have hlk : ends k (v_lo σ) = ((lk (v_lo σ) ((v_lo σ).length - 1)).2 == k) := by
      obtain ⟨L, x, hL⟩ := snoc_of (v_lo σ) hne
      have e2 := lk_r (L := L) (K := [x]) (k := 0)
      rw [Nat.add_zero, lk_0] at e2
      rw [hL, ends_app, List.length_append, List.length_singleton, Nat.add_sub_cancel, e2]
    have hx2 := hP.1.2.1 _ (lk_m (L := v_lo σ) (k := (v_lo σ).length - 1) (by omega))
    rw [if_neg (nI_nle (by omega) (by omega)), ei, gd_t (nI_in (by omega) (by decide)), v_cl (by omega), hv]
    by_cases c : (lk (v_lo σ) ((v_lo σ).length - 1)).2 = k
    · rw [hlk, c, beq_self_eq_true, if_pos rfl] at h133
      rw [if_pos (by rw [c])]
      exact h133
    · rw [hlk, beq_eq_false_iff_ne.mpr c, if_neg (by decide)] at h133
      rw [if_neg (fun q => c ((nI_eq (by omega) (by omega)).mp q)), f_L_acts_J132]
      exact h133
end LA
