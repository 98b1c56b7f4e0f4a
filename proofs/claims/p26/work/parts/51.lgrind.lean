/-! the law grinds -/
abbrev LGr : Type := (Nat → Int32) × (Nat → Int32) × (Nat → Int32) × (Nat → Int32) × (Nat → Int32)
abbrev LGf : Type := Int32 → (Nat → Int32) → (Nat → Int32) → (Nat → Int32) → (Nat → Int32) → (Nat → Int32) → Option LGr
theorem L_sh {r : LGf} {y5 y6 y7 y8 : Int32} {G U C E : Nat → Int32} : ∀ (m i fuel : Nat) (H : Nat → Int32), i + m = 10 → m < fuel → ∃ H', f_L_grind_L113 r y5 y6 y7 y8 1 fuel (nI i) G U H C E = f_L_grind_J141 r y5 y6 y7 y8 1 G U H' C E ∧ (∀ k, i ≤ k → k < 10 → H' k = H (k + 2)) ∧ ∀ k, (k < i ∨ 10 ≤ k) → H' k = H k := by
  intro m
  induction m with
  | zero =>
    intro i fuel H hi hf
    obtain ⟨fu, rfl⟩ : ∃ fu, fuel = fu + 1 := ⟨fuel - 1, by omega⟩
    rw [f_L_grind_L113, if_pos (by rw [fa_L]; exact nI_le (by omega) (by omega))]
    exact ⟨H, rfl, fun k h1 h2 => absurd h2 (by omega), fun k _ => rfl⟩
  | succ m ih =>
    intro i fuel H hi hf
    obtain ⟨fu, rfl⟩ : ∃ fu, fuel = fu + 1 := ⟨fuel - 1, by omega⟩
    obtain ⟨H', a1, a2, a3⟩ := ih (i + 1) fu (upd H i (H (i + 2))) (by omega) (by omega)
    refine ⟨H', ?_, ?_, ?_⟩
    · rw [f_L_grind_L113, if_neg (by rw [fa_L]; exact nI_ge (by omega) (by decide)), if_neg (by decide), fa_lit 2, nI_add, gd_t (nI_in (by omega) (by decide)), v_cl (by omega)]
      simp only [lt_v]
      rw [gd_t (nI_in (by omega) (by decide)), v_cl (by omega), nI_1, a1]
    · intro k h1 h2
      by_cases e : k = i
      · subst e
        rw [a3 _ (Or.inl (by omega)), pk_us]
      · rw [a2 k (by omega) h2, pk_un (by omega)]
    · intro k hk
      rw [a3 k (by omega), pk_un (by omega)]
theorem L_J44 {r : LGf} {y6 : Int32} {b g l z : Nat} {p : Nat × Nat} {L ch : List (Nat × Nat)} {G U H C E : Nat → Int32} (hlo : loE (p :: L) G H) (hch : rwE ch C) (hb : b < 2) (hg : g ≤ 600) (hp : p.1 ≤ 4000) (hp2 : p.2 < 2) (hz0 : 1 ≤ z) (hz : z ≤ p.1) (hl : z ≤ l) (hl2 : l ≤ 400) (hlen : L.length ≤ 5) (hlen2 : ch.length < 62) :
    ∃ G' H' C', f_L_grind_J44 r (nI b) y6 (nI g) (nI l) (nI z) G U H C E = r (nI (l - z)) G' U H' C' E ∧ rwE (ch ++ [(z, 4 * g + 2 * b + p.2)]) C' ∧ (z = p.1 → loE L G' H') ∧ (z < p.1 → loE ((p.1 - z, p.2) :: L) G' H') ∧ ∀ i, i ≠ 13 → G' i = G i := by
  have e13 : G 13 = nI (L.length + 1) := hlo.1
  have e0 : H 0 = nI p.2 := (hlo.2 0 (Nat.succ_pos _)).1
  have e1 : H 1 = nI p.1 := (hlo.2 0 (Nat.succ_pos _)).2
  have ec : C 0 = nI ch.length := hch.1
  have ev : nI z + (1000 : Int32) * nI p.2 + (2000 : Int32) * nI b + (4000 : Int32) * nI g = nI (en (z, 4 * g + 2 * b + p.2)) := by
    rw [fa_lit 1000, fa_lit 2000, fa_lit 4000, pk_mul, pk_mul, pk_mul, nI_add, nI_add, nI_add]
    unfold en
    exact nI_inj (by show _ = z + 1000 * (4 * g + 2 * b + p.2); omega)
  have eg : ¬ (nI (ch.length + 1) < 0 ∨ 64 ≤ (nI (ch.length + 1)).toNatClampNeg) := nI_in (by omega) (by decide)
  generalize hT : upd (upd C 0 (nI (ch.length + 1))) (ch.length + 1) (nI (en (z, 4 * g + 2 * b + p.2))) = T
  have hrw : rwE (ch ++ [(z, 4 * g + 2 * b + p.2)]) T := by
    refine ⟨?_, fun k hk => ?_⟩
    · rw [← hT, pk_un (by omega), pk_us, List.length_append]; rfl
    · rw [List.length_append, List.length_singleton] at hk
      by_cases e : k = ch.length
      · subst e
        have := lk_r (L := ch) (K := [(z, 4 * g + 2 * b + p.2)]) (k := 0)
        rw [Nat.add_zero, lk_0] at this
        rw [this, ← hT, pk_us]
      · rw [lk_l (by omega), ← hT, pk_un (by omega), pk_un (by omega)]
        exact hch.2 k (by omega)
  have st : f_L_grind_J44 r (nI b) y6 (nI g) (nI l) (nI z) G U H C E = (if nI (p.1 - z) = 0 then f_L_grind_J108 r (nI b) y6 (nI g) (nI (l - z)) 1 G U (upd H 1 (nI (p.1 - z))) T E else f_L_grind_J108 r (nI b) y6 (nI g) (nI (l - z)) 0 G U (upd H 1 (nI (p.1 - z))) T E) := by
    rw [f_L_grind_J44]
    simp only [lt_v, cN (n := 0) (by decide), cN (n := 1) (by decide), pk_us]
    rw [ec, nI_1, e0, ev, gd_t eg, v_cl (by omega), hT, e1, pk_sub hz, pk_sub hl]
  have key : ∀ (n1 : Nat) (z0 : Int32) (H' : Nat → Int32), (nI (L.length + 1) - z0 = nI n1) → f_L_grind_J156 r (nI b) y6 (nI g) (nI (l - z)) z0 (G (13 : Int32).toNatClampNeg) (13 : Int32) G U H' T E = r (nI (l - z)) (upd G 13 (nI n1)) U H' T E := fun n1 z0 H' hn => by
    rw [f_L_grind_J156, cN (n := 13) (by decide), e13, hn, lt_v, gd_t (by decide), lt_v]
  rw [st]
  by_cases c : z = p.1
  · obtain ⟨H', a1, a2, a3⟩ := L_sh (r := r) (y5 := nI b) (y6 := y6) (y7 := nI g) (y8 := nI (l - z)) (G := G) (U := U) (C := T) (E := E) 10 0 FU (upd H 1 (nI (p.1 - z))) (by omega) (by show _ < 20000; omega)
    refine ⟨upd G 13 (nI L.length), H', T, ?_, hrw, fun _ => ⟨pk_us, fun k hk => ⟨?_, ?_⟩⟩, fun q => absurd q (by omega), fun i hi => pk_un hi⟩
    · rw [if_pos (by rw [c, Nat.sub_self]; exact nI_0), f_L_grind_J108, ← nI_0, a1, f_L_grind_J141, if_neg (by decide)]
      exact key L.length 1 H' (nI_pred L.length)
    · have h1 := (hlo.2 (k + 1) (by simp only [List.length_cons]; omega)).1
      rw [lk_s] at h1
      rw [a2 (2 * k) (by omega) (by omega), pk_un (by omega), ← h1]
      congr 1
    · have h1 := (hlo.2 (k + 1) (by simp only [List.length_cons]; omega)).2
      rw [lk_s] at h1
      rw [a2 (2 * k + 1) (by omega) (by omega), pk_un (by omega), ← h1]
      congr 1
  · refine ⟨upd G 13 (nI (L.length + 1)), upd H 1 (nI (p.1 - z)), T, ?_, hrw, fun q => absurd q c, fun _ => ⟨pk_us, fun k hk => ?_⟩, fun i hi => pk_un hi⟩
    · have hFU : FU = 19999 + 1 := rfl
      rw [if_neg (nI_ne0 (by omega) (by omega)), f_L_grind_J108, hFU, f_L_grind_L113, if_neg (by decide), if_pos rfl, f_L_grind_J141, if_pos rfl]
      exact key (L.length + 1) 0 _ (by rw [← nI_0, pk_sub (Nat.zero_le _), Nat.sub_zero])
    · cases k with
      | zero =>
        rw [lk_0]
        refine ⟨?_, pk_us⟩
        rw [pk_un (by decide)]
        exact e0
      | succ k =>
        simp only [List.length_cons] at hk
        have h1 := hlo.2 (k + 1) (by simp only [List.length_cons]; omega)
        rw [lk_s] at h1 ⊢
        rw [pk_un (by omega), pk_un (by omega)]
        exact h1
theorem L_in {b g : Nat} {y6 : Int32} {U E : Nat → Int32} (hb : b < 2) (hg : g ≤ 600) : ∀ (L : List (Nat × Nat)) (l fuel : Nat) (ch : List (Nat × Nat)) (G H C : Nat → Int32), okR L → (∀ p ∈ L, p.2 < 2) → loE L G H → rwE ch C → l ≤ tot L → l ≤ 400 → L.length ≤ 6 → ch.length + L.length ≤ 62 → L.length < fuel →
    ∃ fu' G' H' C', f_L_grind_L23 (nI b) y6 (nI g) fuel (nI l) G U H C E = f_L_grind_L23 (nI b) y6 (nI g) (fu' + 1) (nI 0) G' U H' C' E ∧ loE (tk l L).2 G' H' ∧ rwE (ch ++ mk2 (fun m => 4 * g + 2 * b + m) (tk l L).1) C' ∧ ∀ i, i ≠ 13 → G' i = G i := by
  intro L
  induction L with
  | nil =>
    intro l fuel ch G H C hok hk2 hlo hch hl hl2 hlen hlen2 hf
    obtain ⟨fu, rfl⟩ : ∃ fu, fuel = fu + 1 := ⟨fuel - 1, by omega⟩
    have : l = 0 := Nat.le_zero.mp hl
    subst this
    refine ⟨fu, G, H, C, rfl, hlo, ?_, fun i _ => rfl⟩
    rw [tk_0]
    show rwE (ch ++ []) C
    rw [List.append_nil]
    exact hch
  | cons p L ih =>
    intro l fuel ch G H C hok hk2 hlo hch hl hl2 hlen hlen2 hf
    obtain ⟨fu, rfl⟩ : ∃ fu, fuel = fu + 1 := ⟨fuel - 1, by omega⟩
    simp only [List.length_cons] at hlen hlen2 hf
    by_cases h0 : l = 0
    · subst h0
      refine ⟨fu, G, H, C, rfl, ?_, ?_, fun i _ => rfl⟩
      · rw [tk_0]; exact hlo
      · rw [tk_0]
        show rwE (ch ++ []) C
        rw [List.append_nil]
        exact hch
    · obtain ⟨hp, hok2⟩ := okR_c hok
      have e1 : H 1 = nI p.1 := (hlo.2 0 (Nat.succ_pos _)).2
      have hm := hk2 p List.mem_cons_self
      rw [f_L_grind_L23, if_neg (nI_nle (by omega) (by omega)), cN (n := 1) (by decide), e1]
      by_cases h1 : l < p.1
      · obtain ⟨G', H', C', a1, a2, a3, a4, a5⟩ := L_J44 (r := f_L_grind_L23 (nI b) y6 (nI g) fu) (y6 := y6) (U := U) (E := E) hlo hch hb hg hp.2.1 hm (show 1 ≤ l by omega) (by omega) (Nat.le_refl l) hl2 (by omega) (by omega)
        obtain ⟨fu2, rfl⟩ : ∃ fu2, fu = fu2 + 1 := ⟨fu - 1, by omega⟩
        refine ⟨fu2, G', H', C', ?_, ?_, ?_, a5⟩
        · rw [if_neg (nI_ge (by omega) (by omega)), a1, Nat.sub_self]
        · rw [tk, if_neg h0, if_pos h1]
          exact a4 h1
        · rw [tk, if_neg h0, if_pos h1]
          exact a2
      · obtain ⟨G1, H1, C1, a1, a2, a3, a4, a5⟩ := L_J44 (r := f_L_grind_L23 (nI b) y6 (nI g) fu) (y6 := y6) (U := U) (E := E) (z := p.1) hlo hch hb hg hp.2.1 hm hp.1 (Nat.le_refl _) (by omega) hl2 (by omega) (by omega)
        obtain ⟨fu', G', H', C', b1, b2, b3, b4⟩ := ih (l - p.1) fu (ch ++ [(p.1, 4 * g + 2 * b + p.2)]) G1 H1 C1 hok2 (fun q hq => hk2 q (List.mem_cons_of_mem _ hq)) (a3 rfl) a2 (by simp only [tot] at hl; omega) (by omega) (by omega) (by rw [List.length_append, List.length_singleton]; omega) (by omega)
        refine ⟨fu', G', H', C', ?_, ?_, ?_, fun i hi => (b4 i hi).trans (a5 i hi)⟩
        · rw [← b1, ← a1, if_pos (nI_le (by omega) (by omega))]
        · rw [tk, if_neg h0, if_neg h1]
          exact b2
        · rw [tk, if_neg h0, if_neg h1]
          rw [app1] at b3
          exact b3
theorem L_shc {r : LGf} {y : Int32} {N : Nat} {G U H E : Nat → Int32} (hN : N ≤ 63) : ∀ (m i fuel : Nat) (C : Nat → Int32), 1 ≤ i → i + m = N → m < fuel → C 0 = nI N → ∃ C', f_L_grind_L309 r y y fuel (nI i) G U H C E = f_L_grind_J340 r y y G U H C' E ∧ (∀ k, i ≤ k → k < N → C' k = C (k + 1)) ∧ ∀ k, (k < i ∨ N ≤ k) → C' k = C k := by
  intro m
  induction m with
  | zero =>
    intro i fuel C h1 hi hf h0
    obtain ⟨fu, rfl⟩ : ∃ fu, fuel = fu + 1 := ⟨fuel - 1, by omega⟩
    rw [f_L_grind_L309, cN (n := 0) (by decide), h0, if_pos (nI_le (by omega) (by omega))]
    exact ⟨C, rfl, fun k h1 h2 => absurd h2 (by omega), fun k _ => rfl⟩
  | succ m ih =>
    intro i fuel C h1 hi hf h0
    obtain ⟨fu, rfl⟩ : ∃ fu, fuel = fu + 1 := ⟨fuel - 1, by omega⟩
    obtain ⟨C', a1, a2, a3⟩ := ih (i + 1) fu (upd C i (C (i + 1))) (by omega) (by omega) (by omega) ((pk_un (by omega)).trans h0)
    refine ⟨C', ?_, ?_, ?_⟩
    · rw [f_L_grind_L309, cN (n := 0) (by decide), h0, if_neg (nI_ge (by omega) (by omega)), if_pos rfl, nI_1, gd_t (nI_in (by omega) (by decide)), v_cl (by omega)]
      simp only [lt_v]
      rw [gd_t (nI_in (by omega) (by decide)), v_cl (by omega), a1]
    · intro k h1 h2
      by_cases e : k = i
      · subst e
        rw [a3 _ (Or.inl (by omega)), pk_us]
      · rw [a2 k (by omega) h2, pk_un (by omega)]
    · intro k hk
      rw [a3 k (by omega), pk_un (by omega)]
theorem okE_c {p : Nat × Nat} {L : List (Nat × Nat)} (h : okE (p :: L)) : (1 ≤ p.1 ∧ p.1 < 1000 ∧ 40 ≤ p.2 ∧ p.2 < 2404) ∧ okE L := ⟨h p List.mem_cons_self, fun q hq => h q (List.mem_cons_of_mem _ hq)⟩
theorem okE_cc {p : Nat × Nat} {L : List (Nat × Nat)} (h : 1 ≤ p.1 ∧ p.1 < 1000 ∧ 40 ≤ p.2 ∧ p.2 < 2404) (h2 : okE L) : okE (p :: L) := fun q hq => by
  rcases List.mem_cons.mp hq with rfl | hq
  · exact h
  · exact h2 q hq
theorem L_J272 {r : LGf} {v z : Nat} {p : Nat × Nat} {L ba : List (Nat × Nat)} {G U H C E : Nat → Int32} (hch : rwE (p :: L) C) (hba : rwE ba E) (hok : okE (p :: L)) (hz0 : 1 ≤ z) (hz : z ≤ p.1) (hlen : L.length ≤ 62) (hlen2 : ba.length < 63) (h9 : G 9 = nI v) :
    ∃ C' E', f_L_grind_J272 r (nI p.1) (nI z) G U H C E = r (nI (tot (if z = p.1 then L else (p.1 - z, p.2) :: L)) - nI v) G U H C' E' ∧ rwE (ba ++ [(z, p.2)]) E' ∧ rwE (if z = p.1 then L else (p.1 - z, p.2) :: L) C' := by
  obtain ⟨hp, hok2⟩ := okE_c hok
  have hl := en_lt hp.2.1 hp.2.2.2
  have e0 : C 0 = nI (L.length + 1) := hch.1
  have e1 : C 1 = nI (en p) := hch.2 0 (Nat.succ_pos _)
  have eb : E 0 = nI ba.length := hba.1
  have ev : nI (en p) - nI p.1 + nI z = nI (en (z, p.2)) := by
    rw [pk_sub (by unfold en; omega), nI_add]
    exact nI_inj (by unfold en; show _ = z + 1000 * p.2; omega)
  have es : nI (en p) - nI z = nI (en (p.1 - z, p.2)) := by
    rw [pk_sub (by unfold en; omega)]
    exact nI_inj (by unfold en; show _ = p.1 - z + 1000 * p.2; omega)
  generalize hT : upd (upd E 0 (nI (ba.length + 1))) (ba.length + 1) (nI (en (z, p.2))) = T
  have hrw : rwE (ba ++ [(z, p.2)]) T := by
    refine ⟨?_, fun k hk => ?_⟩
    · rw [← hT, pk_un (by omega), pk_us, List.length_append]; rfl
    · rw [List.length_append, List.length_singleton] at hk
      by_cases e : k = ba.length
      · subst e
        have := lk_r (L := ba) (K := [(z, p.2)]) (k := 0)
        rw [Nat.add_zero, lk_0] at this
        rw [this, ← hT, pk_us]
      · rw [lk_l (by omega), ← hT, pk_un (by omega), pk_un (by omega)]
        exact hba.2 k (by omega)
  have st : f_L_grind_J272 r (nI p.1) (nI z) G U H C E = f_L_grind_L309 r (nI p.1) (nI z) FU (1 : Int32) G U H (upd C 1 (nI (en (p.1 - z, p.2)))) T := by
    rw [f_L_grind_J272]
    simp only [lt_v, cN (n := 0) (by decide), cN (n := 1) (by decide), pk_us]
    rw [eb, nI_1, e1, ev, es, gd_t (nI_in (by omega) (by decide)), v_cl (by omega), hT]
  rw [st]
  by_cases c : z = p.1
  · rw [if_pos c, c]
    obtain ⟨C', a1, a2, a3⟩ := L_shc (r := r) (y := nI p.1) (N := L.length + 1) (G := G) (U := U) (H := H) (E := T) (by omega) L.length 1 FU (upd C 1 (nI (en (p.1 - p.1, p.2)))) (Nat.le_refl 1) (by omega) (by show _ < 20000; omega) ((pk_un (by decide)).trans e0)
    have hC : rwE L (upd C' 0 (nI L.length)) := by
      refine ⟨pk_us, fun k hk => ?_⟩
      have h1 := hch.2 (k + 1) (by simp only [List.length_cons]; omega)
      rw [lk_s] at h1
      rw [pk_un (by omega), a2 (k + 1) (by omega) (by omega), pk_un (by omega)]
      exact h1
    refine ⟨upd C' 0 (nI L.length), T, ?_, (by rw [c] at hrw; exact hrw), hC⟩
    rw [fa_lit 1, a1, f_L_grind_J340, if_pos rfl, cN (n := 0) (by decide), a3 0 (Or.inl (by decide)), pk_un (by decide), e0, f_L_grind_J356, nI_pred, lt_v, gd_t (by decide), lt_v, cN (n := 0) (by decide), L_amounts hC hok2 (by omega), Option.bind_some, cN (n := 9) (by decide), h9, lt_v]
  · rw [if_neg c]
    have hFU : FU = 19999 + 1 := rfl
    have hok3 : okE ((p.1 - z, p.2) :: L) := okE_cc ⟨by show 1 ≤ p.1 - z; omega, by show p.1 - z < 1000; omega, hp.2.2⟩ hok2
    have hC : rwE ((p.1 - z, p.2) :: L) (upd (upd C 1 (nI (en (p.1 - z, p.2)))) 0 (nI (L.length + 1))) := by
      refine ⟨pk_us, fun k hk => ?_⟩
      cases k with
      | zero => rw [lk_0, pk_un (by decide), pk_us]
      | succ k =>
        simp only [List.length_cons] at hk
        have h1 := hch.2 (k + 1) (by simp only [List.length_cons]; omega)
        rw [lk_s] at h1 ⊢
        rw [pk_un (by omega), pk_un (by omega)]
        exact h1
    have hne : ¬ nI z = nI p.1 := fun q => c ((nI_eq (by omega) (by omega)).mp q)
    refine ⟨_, T, ?_, hrw, hC⟩
    have hJ : f_L_grind_J340 r (nI p.1) (nI z) G U H (upd C 1 (nI (en (p.1 - z, p.2)))) T = r (nI (tot ((p.1 - z, p.2) :: L)) - nI v) G U H (upd (upd C 1 (nI (en (p.1 - z, p.2)))) 0 (nI (L.length + 1))) T := by
      rw [f_L_grind_J340, if_neg hne, cN (n := 0) (by decide), pk_un (by decide), e0, f_L_grind_J356, ← nI_0, pk_sub (Nat.zero_le _), Nat.sub_zero, lt_v, gd_t (by decide), lt_v, show (nI 0).toNatClampNeg = 0 from rfl, L_amounts hC hok3 (by simp only [List.length_cons]; omega), Option.bind_some, cN (n := 9) (by decide), h9, lt_v]
    rw [hFU, f_L_grind_L309, if_neg hne, hJ]
    by_cases c3 : (upd C 1 (nI (en (p.1 - z, p.2)))) (0 : Int32).toNatClampNeg ≤ (1 : Int32)
    · rw [if_pos c3]
    · rw [if_neg c3]
theorem L_ov {v : Nat} {G U H : Nat → Int32} (h9 : G 9 = nI v) (hv : v ≤ 100) : ∀ (L : List (Nat × Nat)) (fuel : Nat) (ba : List (Nat × Nat)) (C E : Nat → Int32), okE L → rwE L C → rwE ba E → tot L < 2 ^ 20 → L.length ≤ 63 → ba.length + (tk (tot L - v) L).1.length ≤ 63 → L.length < fuel →
    ∃ C' E', f_L_grind_L244 fuel (nI (tot L) - nI v) G U H C E = some (G, U, H, C', E') ∧ rwE (tk (tot L - v) L).2 C' ∧ rwE (ba ++ (tk (tot L - v) L).1) E' := by
  have z0 : ∀ (t fu : Nat) (C E : Nat → Int32), t ≤ v → f_L_grind_L244 (fu + 1) (nI t - nI v) G U H C E = some (G, U, H, C, E) := fun t fu C E ht => by
    rw [f_L_grind_L244, if_pos]
    by_cases e : t = v
    · rw [e, pk_sub (Nat.le_refl _), Nat.sub_self, nI_0]; exact Int32.le_refl 0
    · exact Int32.le_of_lt (pk_sneg (by omega) (by omega))
  intro L
  induction L with
  | nil =>
    intro fuel ba C E hok hch hba ht hlen hlen2 hf
    obtain ⟨fu, rfl⟩ : ∃ fu, fuel = fu + 1 := ⟨fuel - 1, by omega⟩
    refine ⟨C, E, z0 0 fu C E (Nat.zero_le _), ?_, ?_⟩
    · rw [show tot [] - v = 0 by simp [tot], tk_0]; exact hch
    · rw [show tot [] - v = 0 by simp [tot], tk_0, List.append_nil]; exact hba
  | cons p L ih =>
    intro fuel ba C E hok hch hba ht hlen hlen2 hf
    obtain ⟨fu, rfl⟩ : ∃ fu, fuel = fu + 1 := ⟨fuel - 1, by omega⟩
    have htt : tot (p :: L) = p.1 + tot L := rfl
    simp only [List.length_cons] at hlen hf
    by_cases h0 : tot (p :: L) ≤ v
    · refine ⟨C, E, z0 _ fu C E h0, ?_, ?_⟩
      · rw [show tot (p :: L) - v = 0 by omega, tk_0]; exact hch
      · rw [show tot (p :: L) - v = 0 by omega, tk_0, List.append_nil]; exact hba
    · obtain ⟨hp, hok2⟩ := okE_c hok
      have hl := en_lt hp.2.1 hp.2.2.2
      have e1 : C 1 = nI (en p) := hch.2 0 (Nat.succ_pos _)
      have em : en p % 1000 = p.1 := by unfold en; omega
      generalize hll : tot (p :: L) - v = l at hlen2 ⊢
      have st : f_L_grind_L244 (fu + 1) (nI (tot (p :: L)) - nI v) G U H C E = (if nI l ≤ nI p.1 then f_L_grind_J272 (f_L_grind_L244 fu) (nI p.1) (nI l) G U H C E else f_L_grind_J272 (f_L_grind_L244 fu) (nI p.1) (nI p.1) G U H C E) := by
        rw [f_L_grind_L244, pk_sub (by omega), hll, if_neg (nI_nle (by omega) (by omega)), cN (n := 1) (by decide), e1, fa_lit 1000, pk_rem (by omega) (by decide) (by decide), em, lt_v]
      by_cases h1 : l < p.1
      · rw [tk, if_neg (by omega), if_pos h1] at hlen2 ⊢
        simp only [List.length_cons, List.length_nil] at hlen2
        obtain ⟨C', E', a1, a2, a3⟩ := L_J272 (r := f_L_grind_L244 fu) (U := U) (H := H) (z := l) hch hba hok (by omega) (by omega) (by omega) (by omega) h9
        rw [if_neg (show ¬ l = p.1 by omega)] at a1 a3
        obtain ⟨fu2, rfl⟩ : ∃ fu2, fu = fu2 + 1 := ⟨fu - 1, by omega⟩
        refine ⟨C', E', ?_, a3, a2⟩
        rw [st, if_pos (nI_le (by omega) (by omega)), a1]
        exact z0 _ fu2 C' E' (by simp only [tot]; omega)
      · rw [tk, if_neg (by omega), if_neg h1] at hlen2 ⊢
        simp only [List.length_cons] at hlen2
        obtain ⟨C1, E1, a1, a2, a3⟩ := L_J272 (r := f_L_grind_L244 fu) (U := U) (H := H) (z := p.1) hch hba hok hp.1 (Nat.le_refl _) (by omega) (by omega) h9
        rw [if_pos rfl] at a1 a3
        have hl2 : l - p.1 = tot L - v := by omega
        rw [hl2] at hlen2 ⊢
        obtain ⟨C', E', b1, b2, b3⟩ := ih fu (ba ++ [(p.1, p.2)]) C1 E1 hok2 a3 a2 (by omega) (by omega) (by rw [List.length_append, List.length_singleton]; omega) (by omega)
        refine ⟨C', E', ?_, b2, ?_⟩
        · rw [st, ← b1, ← a1]
          by_cases h2 : l = p.1
          · rw [if_pos (nI_le (by omega) (by omega)), h2]
          · rw [if_neg (nI_ge (by omega) (by omega))]
        · rw [app1] at b3
          exact b3
