/-! a turn of the law as a whole -/
theorem one_add (n : Nat) : (1 : Int32) + nI n = nI (1 + n) := nI_add 1 n
section LA2
variable {σ : Sp} {G U H C E T X : Nat → Int32} {n : Nat}
theorem A_299 {b y m : Nat} (hR : LR σ G U H C E T X) (hP : PI σ 46) (hs : v_se σ < 2 ^ 26) (hb : b < 2) (hy : y < 2 ^ 30) (hm : 0 < m) (hm2 : m ≤ 400) : OK σ (f_L_acts_J299 (nI b) (nI m) (nI y) 1 G U H C E T X σ) := by
  obtain ⟨m1, m2, m3, m4, m5, m6, m7, m8, m9, m10, m11, m12, m13, m14, m15⟩ := id hR
  obtain ⟨hk, hc, hl, hK, hT⟩ := id hP
  obtain ⟨k1, k2, k3, k4, k5, k6, k7, k8, k9, k10, k11, k12, k13, k14⟩ := id hk
  have okC : okE (v_ch σ) := okE_of k5 k6 (by omega)
  have okB : okE (v_ba σ) := okE_of k8 k9 (by omega)
  have hy2 := Nat.mod_lt y hm
  generalize ha : 1 + y % m = a
  have ha1 : 1 ≤ a := by omega
  have ha2 : a ≤ 400 := by omega
  have hcan : f_L_can (nI a) G H C E = some (a_grind (nI b) (nI a) (v_lo σ) (v_ch σ) (v_ba σ) (v_st σ 2)) := L_can m1 m4 m5 m9 k13 k4 okC okB (by omega) (by omega) k3 k7 k10 hb ha1 ha2
  have st : f_L_acts_J299 (nI b) (nI m) (nI y) 1 G U H C E T X σ = (if 0 ≤ a_grind (nI b) (nI a) (v_lo σ) (v_ch σ) (v_ba σ) (v_st σ 2) then (f_L_grind (nI b) (nI a) G U H C E).bind fun q62 => (f_L_pass ((nI a + (9 : Int32)) / (10 : Int32)) q62.1 q62.2.1).bind fun q63 => (Q_grind (nI b) (nI a) σ).bind fun q64 => (if q64.1 = a_grind (nI b) (nI a) (v_lo σ) (v_ch σ) (v_ba σ) (v_st σ 2) then some ((1 : Int32), q63.2.1, q63.2.2, q62.2.2.1, q62.2.2.2.1, q62.2.2.2.2, T, X, q64.2) else some ((0 : Int32), q63.2.1, q63.2.2, q62.2.2.1, q62.2.2.2.1, q62.2.2.2.2, T, X, q64.2)) else (Q_grind (nI b) (nI a) σ).bind fun q66 => (if q66.1 = a_grind (nI b) (nI a) (v_lo σ) (v_ch σ) (v_ba σ) (v_st σ 2) then some ((1 : Int32), G, U, H, C, E, T, X, q66.2) else some ((0 : Int32), G, U, H, C, E, T, X, q66.2))) := by
    rw [f_L_acts_J299, gd_t (nI_ne0 hm (by omega)), pk_rem (by omega) hm (by omega), one_add, ha, lt_v, hcan, Option.bind_some]
  rw [st]
  by_cases h0 : 0 ≤ a_grind (nI b) (nI a) (v_lo σ) (v_ch σ) (v_ba σ) (v_st σ 2)
  · obtain ⟨-, hlo, hov, hv⟩ := agrind_ok h0
    rw [nx_n (by omega)] at hlo hov hv
    have hbx : buE b (bsel (v_b0 σ) (v_b1 σ) b) U := by
      unfold bsel
      rcases (show b = 0 ∨ b = 1 by omega) with rfl | rfl
      · rw [if_pos rfl]; exact m2
      · rw [if_neg (by decide)]; exact m3
    have hbk : buK (bsel (v_b0 σ) (v_b1 σ) b) := bsel_K b k11 k12
    obtain ⟨G1, U1, H1, C1, E1, g1, g2, g3, g4, g5, g6, g7, g8, g9⟩ := L_grind m1 m4 m5 hbx hbk (m9 2 (by decide)) k13.2.2.2.1 m12 k1 k2 k4 k5 k6 k7 hb ha1 ha2 hlo hl
    have hU0 : buE 0 (if b = 0 then buG (v_b0 σ) a else v_b0 σ) U1 := by
      rcases (show b = 0 ∨ b = 1 by omega) with rfl | rfl
      · rw [if_pos rfl]
        exact ⟨(g9 0 (by decide) (by decide)).trans m2.1, g5, g6, (g9 3 (by decide) (by decide)).trans m2.2.2.2⟩
      · rw [if_neg (by decide)]
        exact ⟨(g9 0 (by decide) (by decide)).trans m2.1, (g9 1 (by decide) (by decide)).trans m2.2.1, (g9 2 (by decide) (by decide)).trans m2.2.2.1, (g9 3 (by decide) (by decide)).trans m2.2.2.2⟩
    have hU1 : buE 1 (if b = 0 then v_b1 σ else buG (v_b1 σ) a) U1 := by
      rcases (show b = 0 ∨ b = 1 by omega) with rfl | rfl
      · rw [if_pos rfl]
        exact ⟨(g9 4 (by decide) (by decide)).trans m3.1, (g9 5 (by decide) (by decide)).trans m3.2.1, (g9 6 (by decide) (by decide)).trans m3.2.2.1, (g9 7 (by decide) (by decide)).trans m3.2.2.2⟩
      · rw [if_neg (by decide)]
        exact ⟨(g9 4 (by decide) (by decide)).trans m3.1, g5, g6, (g9 7 (by decide) (by decide)).trans m3.2.2.2⟩
    have w0 : (if b = 0 then buG (v_b0 σ) a else v_b0 σ).2.1 ≤ 300 := by split; exact buG_w _ _ k11.2.2; exact k11.2.2
    have w1 : (if b = 0 then v_b1 σ else buG (v_b1 σ) a).2.1 ≤ 300 := by split; exact k12.2.2; exact buG_w _ _ k12.2.2
    obtain ⟨G2, U2, p1, p2, p3, p4, p5, p6⟩ := L_pass (n := (a + 9) / 10) (t := v_se σ) (by omega) ((g8 0 (by decide) (by decide)).trans m10) hU0.2.1 hU1.2.1 (by omega) w0 w1
    have hQ : Q_grind (nI b) (nI a) σ = some (a_grind (nI b) (nI a) (v_lo σ) (v_ch σ) (v_ba σ) (v_st σ 2), o_grind b a σ) := by rw [Q_grind, QO_t hs h0, nx_n (by omega), nx_n (by omega)]
    have hKK := KK_self (K_grind hk h0)
    rw [nx_n (by omega), nx_n (by omega)] at hKK
    refine ⟨G2, U2, H1, C1, E1, T, X, o_grind b a σ, ?_, ?_, ⟨hKK, CS_grind hc hlo, ?_, hK, hT⟩, ?_⟩
    · rw [if_pos h0, g1, Option.bind_some, fa_lit 9, nI_add, fa_lit 10, pk_div (by omega) (by decide) (by decide), p1, Option.bind_some, hQ, Option.bind_some, if_pos rfl]
    · have gg : ∀ i, i ≠ 0 → i ≠ 2 → i ≠ 13 → G2 i = G i := fun i i0 i2 i13 => (p5 i i0).trans (g8 i i2 i13)
      refine ⟨⟨(p5 13 (by decide)).trans g2.1, g2.2⟩, ?_, ?_, g3, g4, m6, (gg 14 (by decide) (by decide) (by decide)).trans m7, (gg 5 (by decide) (by decide) (by decide)).trans m8, fun k hk => (gg _ (by omega) (by omega) (by omega)).trans (m9 k hk), p2, (gg 1 (by decide) (by decide) (by decide)).trans m11, (p5 2 (by decide)).trans g7, (gg 3 (by decide) (by decide) (by decide)).trans m13, (gg 4 (by decide) (by decide) (by decide)).trans m14, (gg 6 (by decide) (by decide) (by decide)).trans m15⟩
      · exact ⟨(p6 0 (by decide) (by decide)).trans hU0.1, p3, (p6 2 (by decide) (by decide)).trans hU0.2.2.1, (p6 3 (by decide) (by decide)).trans hU0.2.2.2⟩
      · exact ⟨(p6 4 (by decide) (by decide)).trans hU1.1, p4, (p6 6 (by decide) (by decide)).trans hU1.2.2.1, (p6 7 (by decide) (by decide)).trans hU1.2.2.2⟩
    · have ng := g_in_len (lo := v_lo σ) (ch := v_ch σ) (d := (bsel (v_b0 σ) (v_b1 σ) b).1) (w := (bsel (v_b0 σ) (v_b1 σ) b).2.1) (b := b) (a := a)
      have t2 := tk_len2 (g_in (v_lo σ) (v_ch σ) (bsel (v_b0 σ) (v_b1 σ) b).1 (bsel (v_b0 σ) (v_b1 σ) b).2.1 b a) (g_out (v_ch σ) a (v_st σ 2))
      show (tk (g_out (v_ch σ) a (v_st σ 2)) (g_in (v_lo σ) (v_ch σ) (bsel (v_b0 σ) (v_b1 σ) b).1 (bsel (v_b0 σ) (v_b1 σ) b).2.1 b a)).2.length + (v_ba σ ++ (tk (g_out (v_ch σ) a (v_st σ 2)) (g_in (v_lo σ) (v_ch σ) (bsel (v_b0 σ) (v_b1 σ) b).1 (bsel (v_b0 σ) (v_b1 σ) b).2.1 b a)).1).length ≤ 53
      rw [List.length_append]
      omega
    · show v_se σ + (a + 9) / 10 ≤ v_se σ + 3000
      omega
  · have hQ : Q_grind (nI b) (nI a) σ = some (a_grind (nI b) (nI a) (v_lo σ) (v_ch σ) (v_ba σ) (v_st σ 2), σ) := by rw [Q_grind, QO_f hs h0]
    rw [if_neg h0, hQ, Option.bind_some, if_pos rfl]
    exact ⟨G, U, H, C, E, T, X, σ, rfl, hR, hP.up (by decide), by omega⟩
theorem A_506 {y m : Nat} (hR : LR σ G U H C E T X) (hP : PI σ 53) (hs : v_se σ < 2 ^ 26) (hy : y < 2 ^ 30) (hm : 0 < m) (hm2 : m ≤ 999) : OK σ (f_L_acts_J506 (nI m) (nI y) 1 G U H C E T X σ) := by
  obtain ⟨m1, m2, m3, m4, m5, m6, m7, m8, m9, m10, m11, m12, m13, m14, m15⟩ := id hR
  obtain ⟨hk, hc, hl, hK, hT⟩ := id hP
  obtain ⟨k1, k2, k3, k4, k5, k6, k7, k8, k9, k10, k11, k12, k13, k14⟩ := id hk
  have hy2 := Nat.mod_lt y hm
  generalize ha : 1 + y % m = a
  have ha1 : 1 ≤ a := by omega
  have ha2 : a ≤ 999 := by omega
  obtain ⟨G2, U2, p1, p2, p3, p4, p5, p6⟩ := L_pass (n := a) (t := v_se σ) (by omega) m10 m2.2.1 m3.2.1 (by omega) k11.2.2 k12.2.2
  have hr := ar_ok (w0 := (v_b0 σ).2.1) (w1 := (v_b1 σ).2.1) (s := v_se σ) ha1 ha2
  have h0 : 0 ≤ a_rest (nI a) (v_b0 σ).2.1 (v_b1 σ).2.1 (v_se σ) := by rw [hr]; exact nI_pos' (by have := k11.2.2; have := k12.2.2; omega)
  have hQ : Q_rest (nI a) σ = some (nI ((v_b0 σ).2.1 + (v_b1 σ).2.1 - cl (tmz (v_se σ) a) (v_b0 σ).2.1 - cl (tmz (v_se σ) a) (v_b1 σ).2.1), o_rest a σ) := by rw [Q_rest, QO_t hs h0, hr, nx_n (by omega)]
  have hKK := KK_self (K_rest hk h0)
  rw [nx_n (by omega)] at hKK
  refine ⟨G2, U2, H, C, E, T, X, o_rest a σ, ?_, ?_, ⟨hKK, hc, hl, hK, hT⟩, ?_⟩
  · rw [f_L_acts_J506, gd_t (nI_ne0 hm (by omega)), pk_rem (by omega) hm (by omega), one_add, ha, lt_v, hQ, Option.bind_some, p1, Option.bind_some, if_pos rfl]
  · refine ⟨⟨(p5 13 (by decide)).trans m1.1, m1.2⟩, ?_, ?_, m4, m5, m6, (p5 14 (by decide)).trans m7, (p5 5 (by decide)).trans m8, fun k hk => (p5 _ (by omega)).trans (m9 k hk), p2, (p5 1 (by decide)).trans m11, (p5 2 (by decide)).trans m12, (p5 3 (by decide)).trans m13, (p5 4 (by decide)).trans m14, (p5 6 (by decide)).trans m15⟩
    · exact ⟨(p6 0 (by decide) (by decide)).trans m2.1, p3, (p6 2 (by decide) (by decide)).trans m2.2.2.1, (p6 3 (by decide) (by decide)).trans m2.2.2.2⟩
    · exact ⟨(p6 4 (by decide) (by decide)).trans m3.1, p4, (p6 6 (by decide) (by decide)).trans m3.2.2.1, (p6 7 (by decide) (by decide)).trans m3.2.2.2⟩
  · show v_se σ + a ≤ v_se σ + 3000
    omega
theorem A_708 {i a : Nat} (hR : LR σ G U H C E T X) (hP : PI σ 53) (hs : v_se σ < 2 ^ 26) (hi : i < 6) (h1 : lsN i ≤ a) (h2 : a ≤ msN i) : OK σ (f_L_acts_J708 (nI i) (nI (v_st σ i)) (nI a) (nI (7 + i)) G U H C E T X σ) := by
  obtain ⟨m1, m2, m3, m4, m5, m6, m7, m8, m9, m10, m11, m12, m13, m14, m15⟩ := id hR
  obtain ⟨hk, hc, hl, hK, hT⟩ := id hP
  have hm := msN_le i
  have hv : v_st σ i ≤ 600 := by
    obtain ⟨s1, s2, s3, s4, s5, s6, s7, s8, s9⟩ := hk.2.2.2.2.2.2.2.2.2.2.2.2.1
    rcases six hi with rfl | rfl | rfl | rfl | rfl | rfl <;> omega
  have hr := as_ok (v := v_st σ) hi h1 h2
  have h0 : 0 ≤ a_set (nI i) (nI a) (v_st σ) := by rw [hr]; exact nI_pos' (by omega)
  have hQ : Q_set (nI i) (nI a) σ = some (nI (v_st σ i), o_set i a σ) := by rw [Q_set, QO_t hs h0, hr, nx_n (by omega), nx_n (by omega)]
  have hKK := KK_self (K_set hk h0)
  rw [nx_n (by omega), nx_n (by omega)] at hKK
  refine ⟨upd G (7 + i) (nI a), U, H, C, E, T, X, o_set i a σ, ?_, ?_, ⟨hKK, hc, hl, hK, hT⟩, ?_⟩
  · rw [f_L_acts_J708, gd_t (nI_in (by omega) (by decide)), v_cl (by omega), lt_v, fa_lit 7, nI_add, gd_t (nI_in (by omega) (by decide)), v_cl (by omega), pk_us, hQ, Option.bind_some, if_pos rfl]
  · refine ⟨⟨(pk_un (by omega)).trans m1.1, m1.2⟩, m2, m3, m4, m5, m6, (pk_un (by omega)).trans m7, (pk_un (by omega)).trans m8, fun k hk => ?_, (pk_un (by omega)).trans m10, (pk_un (by omega)).trans m11, (pk_un (by omega)).trans m12, (pk_un (by omega)).trans m13, (pk_un (by omega)).trans m14, (pk_un (by omega)).trans m15⟩
    show upd G (7 + i) (nI a) (7 + k) = nI (updN (v_st σ) i a k)
    unfold updN
    by_cases e : k = i
    · rw [if_pos e, e, pk_us]
    · rw [if_neg e, pk_un (by omega)]; exact m9 k hk
  · show v_se σ ≤ v_se σ + 3000
    omega
theorem A_set {y : Nat} (hR : LR σ G U H C E T X) (hP : PI σ 53) (hs : v_se σ < 2 ^ 26) (hy : y < 2 ^ 30) : OK σ (lt ((nI y - nI y / (6 : Int32) * (6 : Int32))) fun v11 => gd (¬ (((7 : Int32) + v11) < 0 ∨ 15 ≤ ((7 : Int32) + v11).toNatClampNeg)) (lt ((G ((7 : Int32) + v11).toNatClampNeg)) fun v13 => (if v11 = 0 then f_L_acts_J708 v11 v13 ((100 : Int32) + ((nI y / (6 : Int32)) - (nI y / (6 : Int32)) / (501 : Int32) * (501 : Int32))) ((7 : Int32) + v11) G U H C E T X σ else (if v11 = (1 : Int32) then f_L_acts_J708 v11 v13 ((nI y / (6 : Int32)) - (nI y / (6 : Int32)) / (201 : Int32) * (201 : Int32)) ((7 : Int32) + v11) G U H C E T X σ else (if v11 = (2 : Int32) then f_L_acts_J708 v11 v13 ((nI y / (6 : Int32)) - (nI y / (6 : Int32)) / (101 : Int32) * (101 : Int32)) ((7 : Int32) + v11) G U H C E T X σ else (if (5 : Int32) ≤ v11 then f_L_acts_J708 v11 v13 ((nI y / (6 : Int32)) - (nI y / (6 : Int32)) / (2 : Int32) * (2 : Int32)) ((7 : Int32) + v11) G U H C E T X σ else f_L_acts_J708 v11 v13 ((30 : Int32) + ((nI y / (6 : Int32)) - (nI y / (6 : Int32)) / (271 : Int32) * (271 : Int32))) ((7 : Int32) + v11) G U H C E T X σ)))))) := by
  have m9 := hR.2.2.2.2.2.2.2.2.1
  have hi : y % 6 < 6 := Nat.mod_lt _ (by decide)
  have key : ∀ a : Nat, lsN (y % 6) ≤ a → a ≤ msN (y % 6) → OK σ (f_L_acts_J708 (nI (y % 6)) (nI (v_st σ (y % 6))) (nI a) (nI (7 + y % 6)) G U H C E T X σ) := fun a h1 h2 => A_708 hR hP hs hi h1 h2
  have hz : ∀ d : Nat, 0 < d → d < 2 ^ 20 → nI (y / 6) - nI (y / 6) / nI d * nI d = nI (y / 6 % d) := fun d h1 h2 => pk_rem (by omega) h1 (by omega)
  have e6 : nI y - nI y / (6 : Int32) * (6 : Int32) = nI (y % 6) := pk_rem (a := y) (d := 6) (by omega) (by decide) (by decide)
  have d6 : nI y / (6 : Int32) = nI (y / 6) := pk_div (a := y) (d := 6) (by omega) (by decide) (by decide)
  have e7 : (7 : Int32) + nI (y % 6) = nI (7 + y % 6) := nI_add 7 _
  rw [e6, d6, lt_v, e7, gd_t (nI_in (by omega) (by decide)), v_cl (by omega), m9 _ hi, lt_v, fa_lit 501, fa_lit 201, fa_lit 101, fa_lit 271, hz 501 (by decide) (by decide), hz 201 (by decide) (by decide), hz 101 (by decide) (by decide), hz 271 (by decide) (by decide), show nI (y / 6) - nI (y / 6) / (2 : Int32) * (2 : Int32) = nI (y / 6 % 2) from hz 2 (by decide) (by decide), show (100 : Int32) + nI (y / 6 % 501) = nI (100 + y / 6 % 501) from nI_add 100 _, show (30 : Int32) + nI (y / 6 % 271) = nI (30 + y / 6 % 271) from nI_add 30 _]
  generalize y % 6 = i at *
  have q1 := Nat.mod_lt (y / 6) (show 0 < 501 by decide)
  have q2 := Nat.mod_lt (y / 6) (show 0 < 201 by decide)
  have q3 := Nat.mod_lt (y / 6) (show 0 < 101 by decide)
  have q4 := Nat.mod_lt (y / 6) (show 0 < 271 by decide)
  have q5 := Nat.mod_lt (y / 6) (show 0 < 2 by decide)
  rcases six hi with rfl | rfl | rfl | rfl | rfl | rfl
  · rw [if_pos nI_0]; exact key _ (by unfold lsN; simp) (by unfold msN; simp; omega)
  · rw [if_neg (by decide), if_pos (by decide)]; exact key _ (by unfold lsN; simp) (by unfold msN; simp; omega)
  · rw [if_neg (by decide), if_neg (by decide), if_pos (by decide)]; exact key _ (by unfold lsN; simp) (by unfold msN; simp; omega)
  · rw [if_neg (by decide), if_neg (by decide), if_neg (by decide), if_neg (by decide)]; exact key _ (by unfold lsN; simp) (by unfold msN; simp; omega)
  · rw [if_neg (by decide), if_neg (by decide), if_neg (by decide), if_neg (by decide)]; exact key _ (by unfold lsN; simp) (by unfold msN; simp; omega)
  · rw [if_neg (by decide), if_neg (by decide), if_neg (by decide), if_pos (by decide)]; exact key _ (by unfold lsN; simp) (by unfold msN; simp; omega)
theorem A_dial {y : Nat} (hR : LR σ G U H C E T X) (hP : PI σ 53) (hs : v_se σ < 2 ^ 26) (hy : y < 2 ^ 30) : OK σ (lt ((nI y - nI y / (2 : Int32) * (2 : Int32))) fun v26 => gd (¬ (((4 : Int32) * v26) < 0 ∨ 8 ≤ ((4 : Int32) * v26).toNatClampNeg)) (lt ((U ((4 : Int32) * v26).toNatClampNeg)) fun v28 => lt (((1 : Int32) + ((nI y / (2 : Int32)) - (nI y / (2 : Int32)) / (60 : Int32) * (60 : Int32)))) fun v29 => gd (¬ (((4 : Int32) * v26) < 0 ∨ 8 ≤ ((4 : Int32) * v26).toNatClampNeg)) (lt (upd U ((4 : Int32) * v26).toNatClampNeg v29) fun Z31 => gd (¬ (((4 : Int32) * v26) < 0 ∨ 8 ≤ ((4 : Int32) * v26).toNatClampNeg)) ((Q_dial v26 (Z31 ((4 : Int32) * v26).toNatClampNeg) σ).bind fun q33 => (if q33.1 = v28 then some ((1 : Int32), G, Z31, H, C, E, T, X, q33.2) else some ((0 : Int32), G, Z31, H, C, E, T, X, q33.2)))))) := by
  obtain ⟨m1, m2, m3, m4, m5, m6, m7, m8, m9, m10, m11, m12, m13, m14, m15⟩ := id hR
  obtain ⟨hk, hc, hl, hK, hT⟩ := id hP
  obtain ⟨k1, k2, k3, k4, k5, k6, k7, k8, k9, k10, k11, k12, k13, k14⟩ := id hk
  have e2 : nI y - nI y / (2 : Int32) * (2 : Int32) = nI (y % 2) := pk_rem (a := y) (d := 2) (by omega) (by decide) (by decide)
  have d2 : nI y / (2 : Int32) = nI (y / 2) := pk_div (a := y) (d := 2) (by omega) (by decide) (by decide)
  have e60 : nI (y / 2) - nI (y / 2) / (60 : Int32) * (60 : Int32) = nI (y / 2 % 60) := pk_rem (a := y / 2) (d := 60) (by omega) (by decide) (by decide)
  have hb : y % 2 < 2 := Nat.mod_lt _ (by decide)
  have hd := Nat.mod_lt (y / 2) (show 0 < 60 by decide)
  rw [e2, d2, e60, one_add]
  generalize y % 2 = b at hb ⊢
  generalize hdd : 1 + y / 2 % 60 = d
  have hd1 : 1 ≤ d := by omega
  have hd2 : d ≤ 60 := by omega
  have i0 : (4 : Int32) * nI b = nI (4 * b) := by rw [fa_lit 4, pk_mul]
  have g0 : ¬ (nI (4 * b) < 0 ∨ 8 ≤ (nI (4 * b)).toNatClampNeg) := nI_in (by omega) (by decide)
  have hbx : U (4 * b) = nI (bsel (v_b0 σ) (v_b1 σ) b).1 := by
    unfold bsel
    rcases (show b = 0 ∨ b = 1 by omega) with rfl | rfl
    · rw [if_pos rfl]; exact m2.1
    · rw [if_neg (by decide)]; exact m3.1
  have hbk : buK (bsel (v_b0 σ) (v_b1 σ) b) := bsel_K b k11 k12
  have hr := ad_ok (b0 := v_b0 σ) (b1 := v_b1 σ) hb hd1 hd2
  have h0 : 0 ≤ a_dial (nI b) (nI d) (v_b0 σ) (v_b1 σ) := by rw [hr]; exact nI_pos' (by have := hbk.2.1; omega)
  have hQ : Q_dial (nI b) (nI d) σ = some (nI (bsel (v_b0 σ) (v_b1 σ) b).1, o_dial b d σ) := by rw [Q_dial, QO_t hs h0, hr, nx_n (by omega), nx_n (by omega)]
  have hKK := KK_self (K_dial hk h0)
  rw [nx_n (by omega), nx_n (by omega)] at hKK
  refine ⟨G, upd U (4 * b) (nI d), H, C, E, T, X, o_dial b d σ, ?_, ?_, ⟨hKK, CS_dial hc, hl, hK, hT⟩, ?_⟩
  · simp only [lt_v]
    rw [i0, gd_t g0, gd_t g0, gd_t g0, v_cl (by omega), hbx, pk_us, hQ, Option.bind_some, if_pos rfl]
  · refine ⟨m1, ?_, ?_, m4, m5, m6, m7, m8, m9, m10, m11, m12, m13, m14, m15⟩
    · show buE 0 (if b = 0 then (d, (v_b0 σ).2) else v_b0 σ) _
      rcases (show b = 0 ∨ b = 1 by omega) with rfl | rfl
      · rw [if_pos rfl]
        exact ⟨pk_us, (pk_un (by decide)).trans m2.2.1, (pk_un (by decide)).trans m2.2.2.1, (pk_un (by decide)).trans m2.2.2.2⟩
      · rw [if_neg (by decide)]
        exact ⟨(pk_un (by decide)).trans m2.1, (pk_un (by decide)).trans m2.2.1, (pk_un (by decide)).trans m2.2.2.1, (pk_un (by decide)).trans m2.2.2.2⟩
    · show buE 1 (if b = 0 then v_b1 σ else (d, (v_b1 σ).2)) _
      rcases (show b = 0 ∨ b = 1 by omega) with rfl | rfl
      · rw [if_pos rfl]
        exact ⟨(pk_un (by decide)).trans m3.1, (pk_un (by decide)).trans m3.2.1, (pk_un (by decide)).trans m3.2.2.1, (pk_un (by decide)).trans m3.2.2.2⟩
      · rw [if_neg (by decide)]
        exact ⟨pk_us, (pk_un (by decide)).trans m3.2.1, (pk_un (by decide)).trans m3.2.2.1, (pk_un (by decide)).trans m3.2.2.2⟩
  · show v_se σ ≤ v_se σ + 3000
    omega
theorem A_corr {y : Nat} (hR : LR σ G U H C E T X) (hP : PI σ 53) (hs : v_se σ < 2 ^ 26) (hy : y < 2 ^ 30) : OK σ (if (G (14 : Int32).toNatClampNeg) = 0 then (Q_correct (nI y - nI y / (2 : Int32) * (2 : Int32)) σ).bind fun q23 => (if q23.1 = (-1000002 : Int32) then some ((1 : Int32), G, U, H, C, E, T, X, q23.2) else some ((0 : Int32), G, U, H, C, E, T, X, q23.2)) else (f_L_correct (nI y - nI y / (2 : Int32) * (2 : Int32)) (T (1 : Int32).toNatClampNeg) G U).bind fun q19 => (Q_correct (nI y - nI y / (2 : Int32) * (2 : Int32)) σ).bind fun q20 => gd (¬ (((4 : Int32) * (nI y - nI y / (2 : Int32) * (2 : Int32))) < 0 ∨ 8 ≤ ((4 : Int32) * (nI y - nI y / (2 : Int32) * (2 : Int32))).toNatClampNeg)) ((if q20.1 = (q19 ((4 : Int32) * (nI y - nI y / (2 : Int32) * (2 : Int32))).toNatClampNeg) then some ((1 : Int32), G, q19, H, C, E, T, X, q20.2) else some ((0 : Int32), G, q19, H, C, E, T, X, q20.2)))) := by
  obtain ⟨m1, m2, m3, m4, m5, m6, m7, m8, m9, m10, m11, m12, m13, m14, m15⟩ := id hR
  obtain ⟨hk, hc, hl, hK, hT⟩ := id hP
  obtain ⟨k1, k2, k3, k4, k5, k6, k7, k8, k9, k10, k11, k12, k13, k14⟩ := id hk
  have e2 : nI y - nI y / (2 : Int32) * (2 : Int32) = nI (y % 2) := pk_rem (a := y) (d := 2) (by omega) (by decide) (by decide)
  have hb : y % 2 < 2 := Nat.mod_lt _ (by decide)
  rw [e2, cN (n := 14) (by decide), m7, cN (n := 1) (by decide)]
  generalize y % 2 = b at hb ⊢
  have hr := ac_ok (K := v_K σ) (b0 := v_b0 σ) (b1 := v_b1 σ) (g := v_st σ 0) hb
  by_cases c0 : (v_K σ).length = 0
  · rw [if_pos c0] at hr
    have hQ : Q_correct (nI b) σ = some (cNP, σ) := by rw [Q_correct, hr, QO_f hs (by decide)]
    rw [if_pos (by rw [c0]; exact nI_0), hQ, Option.bind_some, if_pos rfl]
    exact ⟨G, U, H, C, E, T, X, σ, rfl, hR, hP, by omega⟩
  · rw [if_neg c0] at hr
    have h1 := (m6 0 (by omega)).2.1
    have ht := hT 0 (by omega)
    rw [show 3 * 0 + 1 = 1 from rfl] at h1
    have hbx : buE b (bsel (v_b0 σ) (v_b1 σ) b) U := by
      unfold bsel
      rcases (show b = 0 ∨ b = 1 by omega) with rfl | rfl
      · rw [if_pos rfl]; exact m2
      · rw [if_neg (by decide)]; exact m3
    have hbk : buK (bsel (v_b0 σ) (v_b1 σ) b) := bsel_K b k11 k12
    have hL := L_correct hb hbx hbk (m9 0 (by decide)) ht k13.1 k13.2.1
    have h0 : 0 ≤ a_corr (nI b) (v_K σ) (v_b0 σ) (v_b1 σ) (v_st σ 0) := by rw [hr]; exact nI_pos' (by unfold cor; omega)
    have hQ : Q_correct (nI b) σ = some (nI (cor (bsel (v_b0 σ) (v_b1 σ) b).1 (sk0 (v_K σ) 0).2.1 (v_st σ 0)), o_corr b σ) := by rw [Q_correct, QO_t hs h0, hr, nx_n (by omega)]
    have i0 : (4 : Int32) * nI b = nI (4 * b) := by rw [fa_lit 4, pk_mul]
    refine ⟨G, upd (upd U (4 * b) (nI (cor (bsel (v_b0 σ) (v_b1 σ) b).1 (sk0 (v_K σ) 0).2.1 (v_st σ 0)))) (4 * b + 3) ((bsel (v_b0 σ) (v_b1 σ) b).2.2.2 + 1), H, C, E, T, X, o_corr b σ, ?_, ?_, ⟨KK_self (K_corr b hk), CS_corr hc, hl, hK, hT⟩, ?_⟩
    · rw [if_neg (nI_ne0 (by omega) (by omega)), h1, hL, Option.bind_some, hQ, Option.bind_some, i0, gd_t (nI_in (by omega) (by decide)), v_cl (by omega), pk_un (by omega), pk_us, if_pos rfl]
    · refine ⟨m1, ?_, ?_, m4, m5, m6, m7, m8, m9, m10, m11, m12, m13, m14, m15⟩
      · show buE 0 (if b = 0 then buX (v_b0 σ) (sk0 (v_K σ) 0).2.1 (v_st σ 0) else v_b0 σ) _
        rcases (show b = 0 ∨ b = 1 by omega) with rfl | rfl
        · rw [if_pos rfl]
          exact ⟨(pk_un (by decide)).trans pk_us, (pk_un (by decide)).trans ((pk_un (by decide)).trans m2.2.1), (pk_un (by decide)).trans ((pk_un (by decide)).trans m2.2.2.1), pk_us⟩
        · rw [if_neg (by decide)]
          exact ⟨(pk_un (by decide)).trans ((pk_un (by decide)).trans m2.1), (pk_un (by decide)).trans ((pk_un (by decide)).trans m2.2.1), (pk_un (by decide)).trans ((pk_un (by decide)).trans m2.2.2.1), (pk_un (by decide)).trans ((pk_un (by decide)).trans m2.2.2.2)⟩
      · show buE 1 (if b = 0 then v_b1 σ else buX (v_b1 σ) (sk0 (v_K σ) 0).2.1 (v_st σ 0)) _
        rcases (show b = 0 ∨ b = 1 by omega) with rfl | rfl
        · rw [if_pos rfl]
          exact ⟨(pk_un (by decide)).trans ((pk_un (by decide)).trans m3.1), (pk_un (by decide)).trans ((pk_un (by decide)).trans m3.2.1), (pk_un (by decide)).trans ((pk_un (by decide)).trans m3.2.2.1), (pk_un (by decide)).trans ((pk_un (by decide)).trans m3.2.2.2)⟩
        · rw [if_neg (by decide)]
          exact ⟨(pk_un (by decide)).trans pk_us, (pk_un (by decide)).trans ((pk_un (by decide)).trans m3.2.1), (pk_un (by decide)).trans ((pk_un (by decide)).trans m3.2.2.1), pk_us⟩
    · show v_se σ ≤ v_se σ + 3000
      omega
theorem A_acts (hR : LR σ G U H C E T X) (hP : PI σ 53) (hs : v_se σ < 2 ^ 26) (z : Int32) : OK σ (f_L_acts z G U H C E T X σ) := by
  obtain ⟨y, hy, e1⟩ := L_low (z >>> ((5 : Int32) &&& 31)) (n := 10000000) (by decide) (by decide)
  obtain ⟨w, hw, e2⟩ := L_low z (n := 24) (by decide) (by decide)
  have e1' : f_L_low (z >>> ((5 : Int32) &&& 31)) (10000000 : Int32) = some (nI y) := e1
  have e2' : f_L_low z (24 : Int32) = some (nI w) := e2
  have m4 := hR.2.2.2.1
  have m5 := hR.2.2.2.2.1
  have hl := hP.2.2.1
  have rem : ∀ d : Nat, 0 < d → d < 2 ^ 20 → nI y - nI y / nI d * nI d = nI (y % d) := fun d h1 h2 => pk_rem (by omega) h1 (by omega)
  have d2 : nI y / (2 : Int32) = nI (y / 2) := pk_div (a := y) (d := 2) (by omega) (by decide) (by decide)
  rw [f_L_acts, e1', Option.bind_some, e2', Option.bind_some, cN (n := 0) (by decide), m5.1, m4.1, nI_add]
  by_cases c46 : (v_ba σ).length + (v_ch σ).length ≤ 46
  · rw [if_pos (show nI ((v_ba σ).length + (v_ch σ).length) ≤ (46 : Int32) from nI_le (b := 46) c46 (by decide))]
    by_cases c6 : w < 6
    · rw [if_neg (show ¬ (6 : Int32) ≤ nI w from nI_ge (b := 6) c6 (by decide)), lt_v, d2]
      have h2 : nI y - nI y / (2 : Int32) * (2 : Int32) = nI (y % 2) := rem 2 (by decide) (by decide)
      rw [d2] at h2
      rw [h2]
      have hb : y % 2 < 2 := Nat.mod_lt _ (by decide)
      split
      · exact A_102 (m := 999) hR hP hs hb (by omega) (by decide) (by decide)
      · exact A_102 (m := 180) hR hP hs hb (by omega) (by decide) (by decide)
    · rw [if_pos (show (6 : Int32) ≤ nI w from nI_le (a := 6) (by omega) (by omega))]
      by_cases c14 : w < 14
      · rw [if_neg (show ¬ (14 : Int32) ≤ nI w from nI_ge (b := 14) c14 (by decide)), lt_v, d2]
        have h2 : nI y - nI y / (2 : Int32) * (2 : Int32) = nI (y % 2) := rem 2 (by decide) (by decide)
        rw [d2] at h2
        rw [h2]
        have hb : y % 2 < 2 := Nat.mod_lt _ (by decide)
        have hP46 : PI σ 46 := ⟨hP.1, hP.2.1, by omega, hP.2.2.2⟩
        split
        · exact A_299 (m := 400) hR hP46 hs hb (by omega) (by decide) (by decide)
        · exact A_299 (m := 130) hR hP46 hs hb (by omega) (by decide) (by decide)
      · rw [if_pos (show (14 : Int32) ≤ nI w from nI_le (a := 14) (by omega) (by omega))]
        by_cases c17 : w < 17
        · rw [if_neg (show ¬ (17 : Int32) ≤ nI w from nI_ge (b := 17) c17 (by decide))]
          obtain ⟨G', U', E', T', X', σ', a1, a2, a3, a4⟩ := A_shoots hR hP hs
          rw [a1, Option.bind_some, gd_t (Or.inr rfl)]
          exact ⟨G', U', H, C, E', T', X', σ', rfl, a2, a3, a4⟩
        · rw [if_pos (show (17 : Int32) ≤ nI w from nI_le (a := 17) (by omega) (by omega))]
          by_cases c17b : w = 17
          · rw [if_pos (by rw [c17b]; rfl)]
            obtain ⟨G', C', σ', a1, a2, a3, a4⟩ := A_purges hR hP hs
            rw [a1, Option.bind_some, gd_t (Or.inr rfl)]
            exact ⟨G', U, H, C', E, T, X, σ', rfl, a2, a3, a4⟩
          · rw [if_neg (show ¬ nI w = (17 : Int32) from fun q => c17b ((nI_eq (b := 17) (by omega) (by decide)).mp q))]
            by_cases c18 : w = 18
            · rw [if_pos (by rw [c18]; rfl)]
              exact A_dial hR hP hs (by omega)
            · rw [if_neg (show ¬ nI w = (18 : Int32) from fun q => c18 ((nI_eq (b := 18) (by omega) (by decide)).mp q))]
              by_cases c21 : w < 21
              · rw [if_neg (show ¬ (21 : Int32) ≤ nI w from nI_ge (b := 21) c21 (by decide))]
                split
                · exact A_506 (m := 999) hR hP hs (by omega) (by decide) (by decide)
                · exact A_506 (m := 40) hR hP hs (by omega) (by decide) (by decide)
              · rw [if_pos (show (21 : Int32) ≤ nI w from nI_le (a := 21) (by omega) (by omega))]
                by_cases c21b : w = 21
                · rw [if_pos (by rw [c21b]; rfl)]
                  exact A_corr hR hP hs (by omega)
                · rw [if_neg (show ¬ nI w = (21 : Int32) from fun q => c21b ((nI_eq (b := 21) (by omega) (by decide)).mp q))]
                  exact A_set hR hP hs (by omega)
  · rw [if_neg (show ¬ nI ((v_ba σ).length + (v_ch σ).length) ≤ (46 : Int32) from nI_ge (a := 46) (by omega) (by omega))]
    split
    · obtain ⟨G', C', σ', a1, a2, a3, a4⟩ := A_purges hR hP hs
      rw [a1, Option.bind_some, gd_t (Or.inr rfl)]
      exact ⟨G', U, H, C', E, T, X, σ', rfl, a2, a3, a4⟩
    · obtain ⟨G', U', E', T', X', σ', a1, a2, a3, a4⟩ := A_shoots hR hP hs
      rw [a1, Option.bind_some, gd_t (Or.inr rfl)]
      exact ⟨G', U', H, C, E', T', X', σ', rfl, a2, a3, a4⟩
end LA2
