/-! the law's grinding as a whole; what it asks before -/
theorem good2 {b a hi : Nat} (hb : b < 2) (ha : 1 ≤ a) (ha2 : a ≤ hi) (hh : hi < 2 ^ 31) : ¬ bad2 (nI b) (nI a) hi := fun q => by
  rcases q with q | q | q
  · refine q ?_
    rcases (show b = 0 ∨ b = 1 by omega) with rfl | rfl
    · exact Or.inl nI_0
    · exact Or.inr rfl
  · exact nI_nlt (a := a) (b := 1) ha (by omega) q
  · exact nI_nlt (a := hi) (b := a) ha2 hh q
theorem L_can {lo ch ba : List (Nat × Nat)} {v : Nat → Nat} {b a : Nat} {G H C E : Nat → Int32} (hlo : loE lo G H) (hch : rwE ch C) (hba : rwE ba E) (hs : stE v G) (hv : stK v) (k4 : lo.length ≤ 6) (o1 : okE ch) (o2 : okE ba) (l1 : ch.length ≤ 63) (l2 : ba.length ≤ 63) (t0 : tot lo ≤ 4000) (t1 : tot ch ≤ 100) (t2 : tot ba ≤ 400) (hb : b < 2) (ha : 1 ≤ a) (ha2 : a ≤ 400) : f_L_can (nI a) G H C E = some (a_grind (nI b) (nI a) lo ch ba (v 2)) := by
  have e9 : G 9 = nI (v 2) := hs 2 (by decide)
  have hc := hv.2.2.2.1
  unfold a_grind
  rw [if_neg (good2 hb ha ha2 (by decide)), v_cl (by omega), f_L_can, L_hopper hlo k4, L_amounts hch o1 l1, Option.bind_some, Option.bind_some]
  by_cases c3 : tot lo < a
  · rw [if_neg (nI_ge c3 (by omega)), if_pos c3]
  · have hz : ∀ z : Nat, z ≤ 500 → f_L_can_J43 G H C E (nI z) = some (if 400 < tot ba + z then cLR else nI z) := fun z hz => by
      rw [f_L_can_J43, L_amounts hba o2 l2, Option.bind_some, nI_add, fa_lit 400]
      by_cases c4 : 400 < tot ba + z
      · rw [if_neg (nI_ge c4 (by omega)), if_pos c4]
      · rw [if_pos (nI_le (by omega) (by omega)), if_neg c4]
    rw [if_pos (nI_le (by omega) (by omega)), if_neg c3, cN (n := 9) (by decide), e9, nI_add]
    by_cases c4 : tot ch + a ≤ v 2
    · have e0 : g_out ch a (v 2) = 0 := by unfold g_out; omega
      rw [if_pos (nI_le c4 (by omega)), e0, ← nI_0, hz 0 (by decide)]
    · rw [if_neg (nI_ge (by omega) (by omega)), Option.bind_some, nI_add, pk_sub (by omega), hz _ (by omega)]
      rfl
theorem L_grind {lo ch ba : List (Nat × Nat)} {x : Bu} {v b a : Nat} {gr : Int32} {G U H C E : Nat → Int32} (hlo : loE lo G H) (hch : rwE ch C) (hba : rwE ba E) (hx : buE b x U) (hxb : buK x) (h9 : G 9 = nI v) (hv : v ≤ 100) (h2 : G 2 = gr) (k1 : okR lo) (k2 : ∀ p ∈ lo, p.2 < 2) (k4 : lo.length ≤ 6) (k5 : okR ch) (k6 : mkK ch) (t1 : tot ch ≤ 100) (hb : b < 2) (ha : 1 ≤ a) (ha2 : a ≤ 400) (hl : a ≤ tot lo) (hlen : ch.length + ba.length ≤ 46) :
    ∃ G' U' H' C' E', f_L_grind (nI b) (nI a) G U H C E = some (G', U', H', C', E') ∧ loE (tk a lo).2 G' H' ∧ rwE (tk (g_out ch a v) (g_in lo ch x.1 x.2.1 b a)).2 C' ∧ rwE (ba ++ (tk (g_out ch a v) (g_in lo ch x.1 x.2.1 b a)).1) E' ∧ U' (4 * b + 1) = nI (buG x a).2.1 ∧ U' (4 * b + 2) = (buG x a).2.2.1 ∧ G' 2 = gr + nI a ∧ (∀ i, i ≠ 2 → i ≠ 13 → G' i = G i) ∧ ∀ i, i ≠ 4 * b + 1 → i ≠ 4 * b + 2 → U' i = U i := by
  obtain ⟨x1, x2, x3⟩ := id hxb
  have hg := gp_le (d := x.1) (w := x.2.1) x2
  obtain ⟨fu', G1, H1, C1, a1, a2, a3, a4⟩ := L_in (g := gp x.1 x.2.1) (y6 := nI a) (U := U) (E := E) hb hg lo a FU ch G H C k1 k2 hlo hch hl ha2 k4 (by omega) (by show _ < 20000; omega)
  have tg := g_in_tot (ch := ch) (d := x.1) (w := x.2.1) (b := b) hl
  have og := g_in_ok (lo := lo) (ch := ch) (d := x.1) (w := x.2.1) (b := b) (a := a) k1 k2 k5 x2 hb
  have mg := g_in_mk (lo := lo) (ch := ch) (d := x.1) (w := x.2.1) (b := b) (a := a) k2 k6 x2 hb
  have ng := g_in_len (lo := lo) (ch := ch) (d := x.1) (w := x.2.1) (b := b) (a := a)
  have hgo : g_out ch a v = tot (g_in lo ch x.1 x.2.1 b a) - v := by rw [tg]; rfl
  have oe : okE (g_in lo ch x.1 x.2.1 b a) := okE_of og mg (by omega)
  have hC1 : rwE (g_in lo ch x.1 x.2.1 b a) C1 := a3
  have nt := tk_len (g_in lo ch x.1 x.2.1 b a) (g_out ch a v)
  rw [hgo] at nt ⊢
  generalize hgi : g_in lo ch x.1 x.2.1 b a = gi at *
  have i0 : (4 : Int32) * nI b = nI (4 * b) := by rw [fa_lit 4, pk_mul]
  have i1 : nI (4 * b) + (1 : Int32) = nI (4 * b + 1) := nI_1 _
  have i2 : nI (4 * b) + (2 : Int32) = nI (4 * b + 2) := by rw [fa_lit 2, nI_add]
  have g0 : ¬ (nI (4 * b) < 0 ∨ 8 ≤ (nI (4 * b)).toNatClampNeg) := nI_in (by omega) (by decide)
  have g1 : ¬ (nI (4 * b + 1) < 0 ∨ 8 ≤ (nI (4 * b + 1)).toNatClampNeg) := nI_in (by omega) (by decide)
  have g2 : ¬ (nI (4 * b + 2) < 0 ∨ 8 ≤ (nI (4 * b + 2)).toNatClampNeg) := nI_in (by omega) (by decide)
  have c0 : (nI (4 * b)).toNatClampNeg = 4 * b := v_cl (by omega)
  have c1 : (nI (4 * b + 1)).toNatClampNeg = 4 * b + 1 := v_cl (by omega)
  have c2 : (nI (4 * b + 2)).toNatClampNeg = 4 * b + 2 := v_cl (by omega)
  have q : ∀ (w : Nat) (Z : Nat → Int32), Z (4 * b + 2) = x.2.2.1 → f_L_grind_J211 (nI b) (nI a) (nI w) (nI (4 * b + 1)) G1 Z H1 C1 E = f_L_grind_L244 FU (nI (tot gi) - nI v) (upd G1 2 (gr + nI a)) (upd (upd Z (4 * b + 1) (nI w)) (4 * b + 2) (x.2.2.1 + nI a)) H1 C1 E := fun w Z hZ => by
    have u1 : upd Z (4 * b + 1) (nI w) (4 * b + 2) = x.2.2.1 := (pk_un (by omega)).trans hZ
    rw [f_L_grind_J211, gd_t g1, c1]
    simp only [lt_v]
    rw [i0, i2, gd_t g2, gd_t g2, c2, u1, cN (n := 2) (by decide), a4 2 (by decide), h2, L_amounts hC1 oe (by omega), Option.bind_some, cN (n := 9) (by decide), pk_un (by decide), a4 9 (by decide), h9]
  have hU : ∀ w : Nat, ∃ C' E', f_L_grind_L244 FU (nI (tot gi) - nI v) (upd G1 2 (gr + nI a)) (upd (upd (upd U (4 * b + 1) (nI (x.2.1 + a / 4))) (4 * b + 1) (nI w)) (4 * b + 2) (x.2.2.1 + nI a)) H1 C1 E = some (upd G1 2 (gr + nI a), upd (upd (upd U (4 * b + 1) (nI (x.2.1 + a / 4))) (4 * b + 1) (nI w)) (4 * b + 2) (x.2.2.1 + nI a), H1, C', E') ∧ rwE (tk (tot gi - v) gi).2 C' ∧ rwE (ba ++ (tk (tot gi - v) gi).1) E' := fun w =>
    L_ov (v := v) (G := upd G1 2 (gr + nI a)) ((pk_un (by decide)).trans ((a4 9 (by decide)).trans h9)) hv gi FU ba C1 E oe hC1 hba (by omega) (by omega) (by omega) (by show _ < 20000; omega)
  have hfin : f_L_grind (nI b) (nI a) G U H C E = f_L_grind_L244 FU (nI (tot gi) - nI v) (upd G1 2 (gr + nI a)) (upd (upd (upd U (4 * b + 1) (nI (x.2.1 + a / 4))) (4 * b + 1) (nI (min 300 (x.2.1 + a / 4)))) (4 * b + 2) (x.2.2.1 + nI a)) H1 C1 E := by
    rw [f_L_grind, i0, i1, gd_t g0, gd_t g1, c0, c1, hx.1, hx.2.1, L_gap (by omega) (by omega), Option.bind_some, a1, f_L_grind_L23, if_pos (by rw [nI_0]; exact Int32.le_refl 0), i0, i1]
    simp only [lt_v]
    rw [gd_t g1, gd_t g1, gd_t g1, gd_t g1, c1, hx.2.1, fa_lit 4, pk_div (by omega) (by decide) (by decide), nI_add, pk_us, fa_lit 300]
    have hz : upd U (4 * b + 1) (nI (x.2.1 + a / 4)) (4 * b + 2) = x.2.2.1 := (pk_un (by omega)).trans hx.2.2.1
    by_cases c : 300 ≤ x.2.1 + a / 4
    · rw [if_pos (nI_le c (by omega)), q 300 _ hz, show min 300 (x.2.1 + a / 4) = 300 by omega]
    · rw [if_neg (nI_ge (by omega) (by omega)), q _ _ hz, show min 300 (x.2.1 + a / 4) = x.2.1 + a / 4 by omega]
  obtain ⟨C', E', b1, b2, b3⟩ := hU (min 300 (x.2.1 + a / 4))
  refine ⟨_, _, _, C', E', hfin.trans b1, ⟨?_, fun k hk => a2.2 k hk⟩, b2, b3, ?_, ?_, pk_us, fun i i2 i13 => ?_, fun i i1 i2 => ?_⟩
  · rw [pk_un (by decide)]; exact a2.1
  · rw [pk_un (by omega), pk_us]; rfl
  · rw [pk_us]; rfl
  · rw [pk_un i2]; exact a4 i i13
  · rw [pk_un i2, pk_un i1, pk_un i1]
