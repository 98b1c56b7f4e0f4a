/-! the reference's hopper and chute -/
theorem c21 : (21 : Int32).toNatClampNeg = 21 := rfl
theorem c22 : (22 : Int32).toNatClampNeg = 22 := rfl
theorem c23 : (23 : Int32).toNatClampNeg = 23 := rfl
theorem c34 : (34 : Int32).toNatClampNeg = 34 := rfl
theorem c35 : (35 : Int32).toNatClampNeg = 35 := rfl
theorem c145 : (145 : Int32).toNatClampNeg = 145 := rfl
theorem c9 : (9 : Int32).toNatClampNeg = 9 := rfl
theorem r_cmL131 {r9 : Int32 → (Nat → Int32) → Option ((Nat → Int32))} {y1 y3 y4 : Int32} {n : Nat} (hn : n ≤ 5) : ∀ (m i fuel : Nat) (S : Nat → Int32), i + m = 2 * n → m < fuel → S 21 = nI n → ∃ S', f_X8_comes_L131 r9 y1 y3 y4 fuel (nI i) S = r9 y3 S' ∧ (∀ k, i ≤ k → k < 2 * n → S' (22 + k) = S (22 + k + 2)) ∧ ∀ k, (k < 22 + i ∨ 22 + 2 * n ≤ k) → S' k = S k := by
  intro m
  induction m with
  | zero =>
    intro i fuel S hi hf h21
    obtain ⟨fu, rfl⟩ : ∃ fu, fuel = fu + 1 := ⟨fuel - 1, by omega⟩
    rw [f_X8_comes_L131, c21, h21, fa_lit 2, pk_mul, if_pos (nI_le (by omega) (by omega)), f_X8_comes_J173]
    exact ⟨S, rfl, fun k h1 h2 => absurd h2 (by omega), fun k _ => rfl⟩
  | succ m ih =>
    intro i fuel S hi hf h21
    obtain ⟨fu, rfl⟩ : ∃ fu, fuel = fu + 1 := ⟨fuel - 1, by omega⟩
    obtain ⟨S', a1, a2, a3⟩ := ih (i + 1) fu (upd S (22 + i) (S (22 + i + 2))) (by omega) (by omega) ((pk_un (by omega)).trans h21)
    refine ⟨S', ?_, ?_, ?_⟩
    · rw [f_X8_comes_L131, c21, h21, fa_lit 2, pk_mul, if_neg (nI_ge (by omega) (by omega)), fa_lit 22, nI_add, nI_add, gd_t (nI_in (by omega) (by decide)), v_cl (by omega)]
      simp only [lt_v]
      rw [gd_t (nI_in (by omega) (by decide)), v_cl (by omega), nI_1, a1]
    · intro k h1 h2
      by_cases e : k = i
      · subst e
        rw [a3 _ (Or.inl (by omega)), pk_us]
      · rw [a2 k (by omega) h2, pk_un (by omega)]
    · intro k hk
      rw [a3 k (by omega), pk_un (by omega)]
theorem r_J35 {r9 : Int32 → (Nat → Int32) → Option ((Nat → Int32))} {b g l z : Nat} {p : Nat × Nat} {L ch : List (Nat × Nat)} {S : Nat → Int32} (hlo : loM (p :: L) S) (hch : rwM 34 ch S) (hb : b < 2) (hg : g ≤ 600) (hp : p.1 ≤ 4000) (hp2 : p.2 < 2) (hz0 : 1 ≤ z) (hz : z ≤ p.1) (hl : z ≤ l) (hl2 : l ≤ 400) (hlen : L.length ≤ 5) (hlen2 : ch.length < 110) :
    ∃ S', f_X8_comes_J35 r9 (nI b) (nI l) (nI g) (nI z) S = r9 (nI (l - z)) S' ∧ rwM 34 (ch ++ [(z, 4 * g + 2 * b + p.2)]) S' ∧ (z = p.1 → loM L S') ∧ (z < p.1 → loM ((p.1 - z, p.2) :: L) S') ∧ ∀ i, (i < 21 ∨ 145 ≤ i) → S' i = S i := by
  have e21 : S 21 = nI (L.length + 1) := hlo.1
  have e22 : S 22 = nI p.2 := (hlo.2 0 (Nat.succ_pos _)).1
  have e23 : S 23 = nI p.1 := (hlo.2 0 (Nat.succ_pos _)).2
  have e34 : S 34 = nI ch.length := hch.1
  have ev : nI z + (512 : Int32) * nI p.2 + (1024 : Int32) * nI b + (2048 : Int32) * nI g = nI (enc (z, 4 * g + 2 * b + p.2)) := by
    rw [fa_lit 512, fa_lit 1024, fa_lit 2048, pk_mul, pk_mul, pk_mul, nI_add, nI_add, nI_add]
    unfold enc
    exact nI_inj (by show _ = z + 512 * (4 * g + 2 * b + p.2); omega)
  have ei : (35 : Int32) + nI ch.length = nI (35 + ch.length) := nI_add 35 _
  have eg : ¬ (nI (35 + ch.length) < 0 ∨ 631 ≤ (nI (35 + ch.length)).toNatClampNeg) := nI_in (by omega) (by decide)
  have w34 : upd S (35 + ch.length) (nI (enc (z, 4 * g + 2 * b + p.2))) 34 = nI ch.length := (pk_un (by omega)).trans e34
  have w23 : upd (upd S (35 + ch.length) (nI (enc (z, 4 * g + 2 * b + p.2)))) 34 (nI (ch.length + 1)) 23 = nI p.1 := ((pk_un (by decide)).trans (pk_un (by omega))).trans e23
  generalize hT : upd (upd S (35 + ch.length) (nI (enc (z, 4 * g + 2 * b + p.2)))) 34 (nI (ch.length + 1)) = T at w23
  have tl : ∀ i, i ≠ 34 → i ≠ 35 + ch.length → T i = S i := fun i h1 h2 => by rw [← hT, pk_un h1, pk_un h2]
  have t34 : T 34 = nI (ch.length + 1) := by rw [← hT, pk_us]
  have tv : T (35 + ch.length) = nI (enc (z, 4 * g + 2 * b + p.2)) := by rw [← hT, pk_un (by omega), pk_us]
  have hrw : ∀ S' : Nat → Int32, (∀ i, 34 ≤ i → i ≤ 144 → S' i = T i) → rwM 34 (ch ++ [(z, 4 * g + 2 * b + p.2)]) S' := by
    intro S' hS'
    refine ⟨?_, fun k hk => ?_⟩
    · rw [hS' 34 (by decide) (by decide), t34, List.length_append]; rfl
    · rw [List.length_append, List.length_singleton] at hk
      rw [hS' _ (by omega) (by omega)]
      by_cases e : k = ch.length
      · subst e
        have := lk_r (L := ch) (K := [(z, 4 * g + 2 * b + p.2)]) (k := 0)
        rw [Nat.add_zero, lk_0] at this
        rw [this]
        exact tv
      · rw [lk_l (by omega), tl _ (by omega) (by omega)]
        exact hch.2 k (by omega)
  rw [f_X8_comes_J35]
  simp only [lt_v]
  rw [show S (22 : Int32).toNatClampNeg = nI p.2 from e22, ev, show S (34 : Int32).toNatClampNeg = nI ch.length from e34, ei, gd_t eg]
  simp only [c21, c22, c23, c34, v_cl (show 35 + ch.length < 2 ^ 31 by omega)]
  rw [w34, nI_1, hT, w23, pk_sub hz, pk_sub hl, pk_us]
  by_cases c : z = p.1
  · have u21 : upd (upd T 23 (nI (p.1 - z))) 21 (nI L.length) 21 = nI L.length := pk_us
    have z21 : upd T 23 (nI (p.1 - z)) 21 = nI (L.length + 1) := ((pk_un (by decide)).trans (tl 21 (by decide) (by omega))).trans e21
    obtain ⟨S', a1, a2, a3⟩ := r_cmL131 (r9 := r9) (y1 := nI b) (y3 := nI (l - z)) (y4 := nI g) hlen (2 * L.length) 0 FU _ (by omega) (by show _ < 20000; omega) u21
    refine ⟨S', ?_, hrw S' (fun i h1 h2 => ?_), fun _ => ⟨?_, fun k hk => ⟨?_, ?_⟩⟩, fun q => absurd q (by omega), fun i hi => ?_⟩
    · rw [if_pos (by rw [c, Nat.sub_self]; exact nI_0), z21, nI_pred]
      rw [← nI_0, a1]
    · rw [a3 i (Or.inr (by omega)), pk_un (by omega), pk_un (by omega)]
    · rw [a3 21 (Or.inl (by decide)), pk_us]
    · have h1 := (hlo.2 (k + 1) (by simp only [List.length_cons]; omega)).1
      rw [lk_s] at h1
      rw [a2 (2 * k) (by omega) (by omega), pk_un (by omega), pk_un (by omega), tl _ (by omega) (by omega), ← h1]
      congr 1
    · have h1 := (hlo.2 (k + 1) (by simp only [List.length_cons]; omega)).2
      rw [lk_s] at h1
      have h2 := a2 (2 * k + 1) (by omega) (by omega)
      rw [show 22 + 2 * k + 1 = 22 + (2 * k + 1) by omega, h2, pk_un (by omega), pk_un (by omega), tl _ (by omega) (by omega), ← h1]
      congr 1
    · rw [a3 i (by omega), pk_un (by omega), pk_un (by omega), tl _ (by omega) (by omega)]
  · refine ⟨upd T 23 (nI (p.1 - z)), ?_, hrw _ (fun i h1 h2 => pk_un (by omega)), fun q => absurd q c, fun _ => ⟨?_, fun k hk => ?_⟩, fun i hi => ?_⟩
    · rw [if_neg (nI_ne0 (by omega) (by omega)), f_X8_comes_J173]
    · rw [pk_un (by decide), tl 21 (by decide) (by omega), e21]; rfl
    · cases k with
      | zero =>
        rw [lk_0]
        refine ⟨?_, pk_us⟩
        rw [pk_un (by decide), tl _ (by decide) (by omega)]
        exact e22
      | succ k =>
        simp only [List.length_cons] at hk
        have h1 := hlo.2 (k + 1) (by simp only [List.length_cons]; omega)
        rw [lk_s] at h1 ⊢
        rw [pk_un (by omega), pk_un (by omega), tl _ (by omega) (by omega), tl _ (by omega) (by omega)]
        exact h1
    · rw [pk_un (by omega), tl _ (by omega) (by omega)]
theorem r_comes_L {b g : Nat} (hb : b < 2) (hg : g ≤ 600) : ∀ (L : List (Nat × Nat)) (l fuel : Nat) (ch : List (Nat × Nat)) (S : Nat → Int32), okR L → (∀ p ∈ L, p.2 < 2) → loM L S → rwM 34 ch S → l ≤ tot L → l ≤ 400 → L.length ≤ 6 → ch.length + L.length ≤ 110 → L.length < fuel →
    ∃ S', f_X8_comes_L9 (nI b) (nI g) fuel (nI l) S = some S' ∧ loM (tk l L).2 S' ∧ rwM 34 (ch ++ mk2 (fun m => 4 * g + 2 * b + m) (tk l L).1) S' ∧ ∀ i, (i < 21 ∨ 145 ≤ i) → S' i = S i := by
  intro L
  induction L with
  | nil =>
    intro l fuel ch S hok hk2 hlo hch hl hl2 hlen hlen2 hf
    obtain ⟨fu, rfl⟩ : ∃ fu, fuel = fu + 1 := ⟨fuel - 1, by omega⟩
    have : l = 0 := Nat.le_zero.mp hl
    subst this
    rw [f_X8_comes_L9, if_pos (by rw [nI_0]; exact Int32.le_refl 0)]
    refine ⟨S, rfl, hlo, ?_, fun i _ => rfl⟩
    rw [tk_0]
    show rwM 34 (ch ++ []) S
    rw [List.append_nil]
    exact hch
  | cons p L ih =>
    intro l fuel ch S hok hk2 hlo hch hl hl2 hlen hlen2 hf
    obtain ⟨fu, rfl⟩ : ∃ fu, fuel = fu + 1 := ⟨fuel - 1, by omega⟩
    simp only [List.length_cons] at hlen hlen2 hf
    by_cases h0 : l = 0
    · subst h0
      rw [f_X8_comes_L9, if_pos (by rw [nI_0]; exact Int32.le_refl 0)]
      refine ⟨S, rfl, ?_, ?_, fun i _ => rfl⟩
      · rw [tk_0]; exact hlo
      · rw [tk_0]
        show rwM 34 (ch ++ []) S
        rw [List.append_nil]
        exact hch
    · obtain ⟨hp, hok2⟩ := okR_c hok
      have e23 : S 23 = nI p.1 := (hlo.2 0 (Nat.succ_pos _)).2
      have hm := hk2 p List.mem_cons_self
      rw [f_X8_comes_L9, if_neg (nI_nle (by omega) (by omega)), c23, e23]
      by_cases h1 : l < p.1
      · obtain ⟨S', a1, a2, a3, a4, a5⟩ := r_J35 (r9 := f_X8_comes_L9 (nI b) (nI g) fu) hlo hch hb hg hp.2.1 hm (show 1 ≤ l by omega) (by omega) (Nat.le_refl l) hl2 (by omega) (by omega)
        refine ⟨S', ?_, ?_, ?_, a5⟩
        · rw [if_pos (nI_le (by omega) (by omega)), a1, Nat.sub_self]
          obtain ⟨fu2, rfl⟩ : ∃ fu2, fu = fu2 + 1 := ⟨fu - 1, by omega⟩
          rw [f_X8_comes_L9, if_pos (by rw [nI_0]; exact Int32.le_refl 0)]
        · rw [tk, if_neg h0, if_pos h1]
          exact a4 h1
        · rw [tk, if_neg h0, if_pos h1]
          exact a2
      · obtain ⟨S1, a1, a2, a3, a4, a5⟩ := r_J35 (r9 := f_X8_comes_L9 (nI b) (nI g) fu) (z := p.1) hlo hch hb hg hp.2.1 hm hp.1 (Nat.le_refl _) (by omega) hl2 (by omega) (by omega)
        obtain ⟨S', b1, b2, b3, b4⟩ := ih (l - p.1) fu (ch ++ [(p.1, 4 * g + 2 * b + p.2)]) S1 hok2 (fun q hq => hk2 q (List.mem_cons_of_mem _ hq)) (a3 rfl) a2 (by simp only [tot] at hl; omega) (by omega) (by omega) (by rw [List.length_append, List.length_singleton]; omega) (by omega)
        refine ⟨S', ?_, ?_, ?_, fun i hi => (b4 i hi).trans (a5 i hi)⟩
        · rw [← b1, ← a1]
          by_cases h2 : l = p.1
          · rw [if_pos (nI_le (by omega) (by omega)), h2]
          · rw [if_neg (nI_ge (by omega) (by omega))]
        · rw [tk, if_neg h0, if_neg h1]
          exact b2
        · rw [tk, if_neg h0, if_neg h1]
          rw [app1] at b3
          exact b3
