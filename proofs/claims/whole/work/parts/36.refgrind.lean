/-! the reference grinds -/
theorem r_couldGrind {σ : Sp} {S : Nat → Int32} {B : Nat} (h : MR σ S) (hk : KK σ B) (x1 x2 : Int32) : f_X8_couldGrind x1 x2 S = some (a_grind x1 x2 (v_lo σ) (v_ch σ) (v_ba σ) (v_st σ 2)) := by
  obtain ⟨m1, m2, m3, m4, m5, m6, m7, m8, m9, m10, m11, m12, m13, m14⟩ := h
  obtain ⟨k1, k2, k3, k4, k5, k6, k7, k8, k9, k10, k11, k12, k13, k14⟩ := hk
  have l1 := len_tot k5
  have l2 := len_tot k8
  unfold a_grind
  rw [f_X8_couldGrind, r_isOne]
  simp only [Option.bind_some]
  by_cases c1 : x1 = 0 ∨ x1 = 1
  · rw [if_pos c1, if_neg (by decide), r_in]
    simp only [Option.bind_some]
    by_cases c2 : x2 < 1 ∨ (400 : Int32) < x2
    · rw [if_pos c2, if_pos rfl, if_pos (show bad2 x1 x2 400 from Or.inr c2)]
    · rw [if_neg c2, if_neg (by decide), if_neg (show ¬ bad2 x1 x2 400 from fun q => by rcases q with q | q; exact q c1; exact c2 q)]
      obtain ⟨a, ha1, ha2, rfl⟩ := v_rng (hi := 400) (by decide) (fun q => c2 (Or.inl q)) (fun q => c2 (Or.inr q))
      rw [r_hopper m1 k4, v_cl (by omega)]
      simp only [Option.bind_some]
      by_cases c3 : tot (v_lo σ) < a
      · rw [if_neg (nI_ge c3 (by omega)), if_pos c3]
      · have e9 : S (9 : Int32).toNatClampNeg = nI (v_st σ 2) := m8 2 (by decide)
        have hc := k13.2.2.2.1
        have ec : f_X8_amounts (34 : Int32) (35 : Int32) S = some (nI (tot (v_ch σ))) := r_amounts (b := 34) m4 (okP_of k5 (by omega)) (by omega)
        have eb : f_X8_amounts (145 : Int32) (146 : Int32) S = some (nI (tot (v_ba σ))) := r_amounts (b := 145) m5 (okP_of k8 (by omega)) (by omega)
        rw [if_pos (nI_le (by omega) (by omega)), if_neg c3, ec]
        simp only [Option.bind_some]
        rw [e9, nI_add, lt_v]
        have hz : ∀ z : Nat, z ≤ 500 → f_X8_couldGrind_J60 S (nI z) = some (if 400 < tot (v_ba σ) + z then cLR else nI z) := fun z hz => by
          rw [f_X8_couldGrind_J60, eb]
          simp only [Option.bind_some]
          rw [nI_add, fa_lit 400]
          by_cases c4 : 400 < tot (v_ba σ) + z
          · rw [if_neg (nI_ge c4 (by omega)), if_pos c4]
          · rw [if_pos (nI_le (by omega) (by omega)), if_neg c4]
        by_cases c4 : v_st σ 2 ≤ tot (v_ch σ) + a
        · rw [pk_sub c4, if_pos (nI_pos' (by omega)), hz _ (by omega)]
          rfl
        · have hn := pk_sneg (a := tot (v_ch σ) + a) (b := v_st σ 2) (by omega) (by omega)
          have e0 : g_out (v_ch σ) a (v_st σ 2) = 0 := by unfold g_out; omega
          rw [if_neg (Int32.not_le.mpr hn), e0, ← nI_0, hz 0 (by decide)]
  · rw [if_neg c1, if_pos rfl, if_pos (Or.inl c1)]
theorem r_over {L ba : List (Nat × Nat)} {S : Nat → Int32} {v : Nat} (hch : rwM 34 L S) (hba : rwM 145 ba S) (hok : okR L) (hT : tot L ≤ 500) (hv : S 9 = nI v) (hv2 : v ≤ 100) (hlen : L.length ≤ 109) (hT2 : tot ba + (tot L - v) ≤ 400) (hb : okR ba) : ∃ S', f_X8_overflows S = some S' ∧ rwM 34 (tk (tot L - v) L).2 S' ∧ rwM 145 (ba ++ (tk (tot L - v) L).1) S' ∧ ∀ i, (i < 34 ∨ 546 ≤ i) → S' i = S i := by
  have e1 : f_X8_amounts (34 : Int32) (35 : Int32) S = some (nI (tot L)) := r_amounts (b := 34) hch (okP_of hok (by omega)) (by omega)
  have l1 := len_tot (tk_ok (tot L - v) hok).1
  have l2 := len_tot hb
  have t1 := (tk_tot L (tot L - v)).1
  rw [f_X8_overflows, e1]
  simp only [Option.bind_some]
  rw [c9, hv, lt_v]
  by_cases c : v ≤ tot L
  · rw [pk_sub c]
    exact r_over_L L (tot L - v) FU ba S (okP_of hok (by omega)) hch hba (by omega) (by omega) hlen (by omega) (by show _ < 20000; omega)
  · have hn := pk_sneg (a := tot L) (b := v) (by omega) (by omega)
    have e0 : tot L - v = 0 := by omega
    have hFU : FU = 19999 + 1 := rfl
    rw [hFU, f_X8_overflows_L17, if_pos (Int32.le_of_lt hn), e0, tk_0, List.append_nil]
    exact ⟨S, rfl, hch, hba, fun i _ => rfl⟩
theorem r_grinds {σ : Sp} {S : Nat → Int32} {B b a : Nat} (h : MR σ S) (hk : KK σ B) (hb : b < 2) (ha : 1 ≤ a) (ha2 : a ≤ 400) (hlo : a ≤ tot (v_lo σ)) (ho : tot (v_ba σ) + g_out (v_ch σ) a (v_st σ 2) ≤ 400) :
    ∃ S', f_X8_grinds (nI b) (nI a) S = some S' ∧ loM (tk a (v_lo σ)).2 S' ∧ rwM 34 (tk (g_out (v_ch σ) a (v_st σ 2)) (g_in (v_lo σ) (v_ch σ) (bsel (v_b0 σ) (v_b1 σ) b).1 (bsel (v_b0 σ) (v_b1 σ) b).2.1 b a)).2 S' ∧ rwM 145 (v_ba σ ++ (tk (g_out (v_ch σ) a (v_st σ 2)) (g_in (v_lo σ) (v_ch σ) (bsel (v_b0 σ) (v_b1 σ) b).1 (bsel (v_b0 σ) (v_b1 σ) b).2.1 b a)).1) S' ∧
      S' (13 + 4 * b + 1) = nI (buG (bsel (v_b0 σ) (v_b1 σ) b) a).2.1 ∧ S' (13 + 4 * b + 2) = (buG (bsel (v_b0 σ) (v_b1 σ) b) a).2.2.1 ∧ S' 2 = v_gr σ + nI a ∧ ∀ i, (i < 21 ∨ 546 ≤ i) → i ≠ 2 → i ≠ 13 + 4 * b + 1 → i ≠ 13 + 4 * b + 2 → S' i = S i := by
  have hbs := bs_M h hb
  obtain ⟨m1, m2, m3, m4, m5, m6, m7, m8, m9, m10, m11, m12, m13, m14⟩ := h
  obtain ⟨k1, k2, k3, k4, k5, k6, k7, k8, k9, k10, k11, k12, k13, k14⟩ := hk
  have hxb := bsel_K b k11 k12
  generalize hx : bsel (v_b0 σ) (v_b1 σ) b = x at hbs hxb ⊢
  obtain ⟨x1, x2, x3⟩ := id hxb
  have l1 := len_tot k5
  have hg := gp_le (d := x.1) (w := x.2.1) x2
  have hv : S 9 = nI (v_st σ 2) := m8 2 (by decide)
  obtain ⟨S1, a1, a2, a3, a4⟩ := r_comes_L (g := gp x.1 x.2.1) hb hg (v_lo σ) a FU (v_ch σ) S k1 k2 m1 m4 hlo ha2 k4 (by omega) (by show _ < 20000; omega)
  have e1 : S1 (13 + 4 * b + 1) = nI x.2.1 := (a4 _ (by omega)).trans hbs.2.1
  have e2 : S1 (13 + 4 * b + 2) = x.2.2.1 := (a4 _ (by omega)).trans hbs.2.2.1
  have e3 : S1 2 = v_gr σ := (a4 2 (by omega)).trans m11
  have q1 : ∀ (w : Nat), f_X8_grinds_J43 (nI b) (nI a) (nI w) (nI (13 + 4 * b + 1)) S1 = (f_X8_overflows (upd (upd (upd S1 (13 + 4 * b + 1) (nI w)) (13 + 4 * b + 2) (x.2.2.1 + nI a)) 2 (v_gr σ + nI a))).bind fun q14 => some q14 := fun w => by
    have ei : (13 : Int32) + (4 : Int32) * nI b + 2 = nI (13 + 4 * b + 2) := by rw [fa_lit 13, fa_lit 4, fa_lit 2, pk_mul, nI_add, nI_add]
    have u1 : upd S1 (13 + 4 * b + 1) (nI w) (13 + 4 * b + 2) = x.2.2.1 := (pk_un (by omega)).trans e2
    have u2 : upd (upd S1 (13 + 4 * b + 1) (nI w)) (13 + 4 * b + 2) (x.2.2.1 + nI a) 2 = v_gr σ := ((pk_un (by omega)).trans (pk_un (by omega))).trans e3
    rw [f_X8_grinds_J43, gd_t (nI_in (by omega) (by decide)), v_cl (by omega)]
    simp only [lt_v]
    rw [ei, gd_t (nI_in (by omega) (by decide)), gd_t (nI_in (by omega) (by decide)), v_cl (by omega), u1, cN (n := 2) (by decide), u2]
  have t1 := g_in_tot (ch := v_ch σ) (d := x.1) (w := x.2.1) (b := b) hlo
  have o1 := g_in_ok (lo := v_lo σ) (ch := v_ch σ) (d := x.1) (w := x.2.1) (b := b) (a := a) k1 k2 k5 x2 hb
  have n1 := g_in_len (lo := v_lo σ) (ch := v_ch σ) (d := x.1) (w := x.2.1) (b := b) (a := a)
  have hgo : g_out (v_ch σ) a (v_st σ 2) = tot (v_ch σ) + a - v_st σ 2 := rfl
  have c3 := k13.2.2.2.1
  generalize hT : upd (upd (upd S1 (13 + 4 * b + 1) (nI (min 300 (x.2.1 + a / 4)))) (13 + 4 * b + 2) (x.2.2.1 + nI a)) 2 (v_gr σ + nI a) = T
  have tT : ∀ i, i ≠ 2 → i ≠ 13 + 4 * b + 1 → i ≠ 13 + 4 * b + 2 → T i = S1 i := fun i i1 i2 i3 => by rw [← hT, pk_un i1, pk_un i3, pk_un i2]
  obtain ⟨S', b1, b2, b3, b4⟩ := r_over (L := g_in (v_lo σ) (v_ch σ) x.1 x.2.1 b a) (ba := v_ba σ) (S := T) (v := v_st σ 2)
    (rwM.of (n := 110) a3 (by show (g_in (v_lo σ) (v_ch σ) x.1 x.2.1 b a).length ≤ 110; omega) (fun i i1 i2 => tT i (by omega) (by omega) (by omega)))
    (rwM.of (n := 400) (rwM.of (n := 400) m5 (by have := len_tot k8; omega) (fun i i1 i2 => a4 i (by omega))) (by have := len_tot k8; omega) (fun i i1 i2 => tT i (by omega) (by omega) (by omega)))
    o1 (by omega) ((tT 9 (by decide) (by omega) (by omega)).trans ((a4 9 (by omega)).trans hv)) c3 (by omega) (by omega) k8
  rw [t1, ← hgo] at b2 b3
  refine ⟨S', ?_, loM.of a2 (Nat.le_trans (tk_len _ _).2 k4) (fun i i1 i2 => (b4 i (by omega)).trans (tT i (by omega) (by omega) (by omega))), b2, b3, ?_, ?_, ?_, fun i i0 i1 i2 i3 => ?_⟩
  · rw [f_X8_grinds, f_X8_comes, r_gap hb hbs hxb]
    simp only [Option.bind_some]
    rw [a1]
    simp only [Option.bind_some]
    have ei : (13 : Int32) + (4 : Int32) * nI b + 1 = nI (13 + 4 * b + 1) := by rw [fa_lit 13, fa_lit 4, fa_lit 1, pk_mul, nI_add, nI_add]
    rw [ei, fa_lit 1, r_ofBurr hb (by decide)]
    simp only [Option.bind_some]
    rw [e1, fa_lit 4, pk_div (by omega) (by decide) (by decide), nI_add, lt_v, fa_lit 300]
    by_cases c : x.2.1 + a / 4 ≤ 300
    · rw [if_pos (nI_le c (by decide)), q1, show x.2.1 + a / 4 = min 300 (x.2.1 + a / 4) by omega, hT, b1]
      rfl
    · rw [if_neg (nI_ge (by omega) (by omega)), q1, show (300 : Nat) = min 300 (x.2.1 + a / 4) by omega, hT, b1]
      rfl
  · rw [b4 _ (by omega), ← hT, pk_un (by omega), pk_un (by omega), pk_us]
    rfl
  · rw [b4 _ (by omega), ← hT, pk_un (by omega), pk_us]
    rfl
  · rw [b4 _ (by omega), ← hT, pk_us]
  · rw [b4 i (by omega), tT i i1 i2 i3, a4 i (by omega)]
/-- the answer of a change of the reference, and what it leaves: nothing changed, or the new state and a longer past (in a text: the past as it was) -/
def RC (σ σ' : Sp) (hs : List Sp) (a : Int32) (S P : Nat → Int32) (pasts runs : Int32) (R : Int32 × (Nat → Int32) × (Nat → Int32) × Int32) : Prop := R.1 = a ∧ (a < 0 → R.2 = (S, P, pasts)) ∧ (0 ≤ a → MR σ' R.2.1 ∧ (runs = 1 → R.2.2 = (P, pasts)) ∧ (runs = 0 → PR ((σ :: hs).take 4) R.2.2.1 R.2.2.2))
theorem r_chg {σ : Sp} {hs : List Sp} {B : Nat} {S P : Nat → Int32} {pasts runs : Int32} (h : PR hs P pasts) (hm : MR σ S) (hk : KK σ B) (hK : KH hs B) (hr : runs = 0 ∨ runs = 1) : ∃ P' pasts', f_X8_changes S P pasts runs = some (P', pasts') ∧ (runs = 1 → (P', pasts') = (P, pasts)) ∧ (runs = 0 → PR ((σ :: hs).take 4) P' pasts') := by
  rcases hr with rfl | rfl
  · obtain ⟨P', pasts', a, b⟩ := r_changes h hm hk hK
    exact ⟨P', pasts', a, fun q => absurd q (by decide), fun _ => b⟩
  · exact ⟨P, pasts, r_changes1 S P pasts, fun _ => rfl, fun q => absurd q (by decide)⟩
theorem neg_no {a : Int32} (h : a < 0) : ¬ 0 ≤ a := Int32.not_le.mpr h
theorem nI_nn {a : Nat} (h : a < 2 ^ 31) : ¬ nI a < 0 := nI_pos h
