/-! the reference's overflow: from the chute into the basket -/
theorem r_ovL125 {r17 : Int32 → (Nat → Int32) → Option ((Nat → Int32))} {y1 : Int32} {n : Nat} (hn : n ≤ 108) : ∀ (m i fuel : Nat) (S : Nat → Int32), i + m = n → m < fuel → S 34 = nI n → ∃ S', f_X8_overflows_L125 r17 y1 fuel (nI i) S = r17 y1 S' ∧ (∀ k, i ≤ k → k < n → S' (35 + k) = S (35 + k + 1)) ∧ ∀ k, (k < 35 + i ∨ 35 + n ≤ k) → S' k = S k := by
  intro m
  induction m with
  | zero =>
    intro i fuel S hi hf h34
    obtain ⟨fu, rfl⟩ : ∃ fu, fuel = fu + 1 := ⟨fuel - 1, by omega⟩
    rw [f_X8_overflows_L125, c34, h34, if_pos (nI_le (by omega) (by omega)), f_X8_overflows_J165]
    exact ⟨S, rfl, fun k h1 h2 => absurd h2 (by omega), fun k _ => rfl⟩
  | succ m ih =>
    intro i fuel S hi hf h34
    obtain ⟨fu, rfl⟩ : ∃ fu, fuel = fu + 1 := ⟨fuel - 1, by omega⟩
    obtain ⟨S', a1, a2, a3⟩ := ih (i + 1) fu (upd S (35 + i) (S (35 + i + 1))) (by omega) (by omega) ((pk_un (by omega)).trans h34)
    refine ⟨S', ?_, ?_, ?_⟩
    · rw [f_X8_overflows_L125, c34, h34, if_neg (nI_ge (by omega) (by omega)), fa_lit 35, nI_add, nI_1, gd_t (nI_in (by omega) (by decide)), v_cl (by omega)]
      simp only [lt_v]
      rw [gd_t (nI_in (by omega) (by decide)), v_cl (by omega), nI_1, a1]
    · intro k h1 h2
      by_cases e : k = i
      · subst e
        rw [a3 _ (Or.inl (by omega)), pk_us]
      · rw [a2 k (by omega) h2, pk_un (by omega)]
    · intro k hk
      rw [a3 k (by omega), pk_un (by omega)]
theorem r_J45 {r17 : Int32 → (Nat → Int32) → Option ((Nat → Int32))} {l z : Nat} {p : Nat × Nat} {L ba : List (Nat × Nat)} {S : Nat → Int32} (hch : rwM 34 (p :: L) S) (hba : rwM 145 ba S) (hp : p.1 < 512) (hp2 : p.2 < 4096) (hz0 : 1 ≤ z) (hz : z ≤ p.1) (hl : z ≤ l) (hl2 : l < 2 ^ 20) (hlen : L.length ≤ 108) (hlen2 : ba.length < 400) :
    ∃ S', f_X8_overflows_J45 r17 (nI l) (nI (enc p)) (nI z) S = r17 (nI (l - z)) S' ∧ rwM 145 (ba ++ [(z, p.2)]) S' ∧ (z = p.1 → rwM 34 L S') ∧ (z < p.1 → rwM 34 ((p.1 - z, p.2) :: L) S') ∧ ∀ i, (i < 34 ∨ 546 ≤ i) → S' i = S i := by
  have e34 : S 34 = nI (L.length + 1) := hch.1
  have e35 : S 35 = nI (enc p) := hch.2 0 (Nat.succ_pos _)
  have e145 : S 145 = nI ba.length := hba.1
  have hpe := enc_lt hp hp2
  have ev : nI (enc p) - nI p.1 + nI z = nI (enc (z, p.2)) := by
    rw [pk_sub (by unfold enc; omega), nI_add]
    exact nI_inj (by unfold enc; show _ = z + 512 * p.2; omega)
  have eg : ¬ (nI (146 + ba.length) < 0 ∨ 631 ≤ (nI (146 + ba.length)).toNatClampNeg) := nI_in (by omega) (by decide)
  have w145 : upd S (146 + ba.length) (nI (enc (z, p.2))) 145 = nI ba.length := (pk_un (by omega)).trans e145
  have w35 : upd (upd S (146 + ba.length) (nI (enc (z, p.2)))) 145 (nI (ba.length + 1)) 35 = nI (enc p) := ((pk_un (by decide)).trans (pk_un (by omega))).trans e35
  generalize hT : upd (upd S (146 + ba.length) (nI (enc (z, p.2)))) 145 (nI (ba.length + 1)) = T at w35
  have tl : ∀ i, i ≠ 145 → i ≠ 146 + ba.length → T i = S i := fun i h1 h2 => by rw [← hT, pk_un h1, pk_un h2]
  have t145 : T 145 = nI (ba.length + 1) := by rw [← hT, pk_us]
  have tv : T (146 + ba.length) = nI (enc (z, p.2)) := by rw [← hT, pk_un (by omega), pk_us]
  have hrw : ∀ S' : Nat → Int32, (∀ i, 145 ≤ i → i ≤ 545 → S' i = T i) → rwM 145 (ba ++ [(z, p.2)]) S' := by
    intro S' hS'
    refine ⟨?_, fun k hk => ?_⟩
    · rw [hS' 145 (by decide) (by decide), t145, List.length_append]; rfl
    · rw [List.length_append, List.length_singleton] at hk
      rw [hS' _ (by omega) (by omega)]
      by_cases e : k = ba.length
      · subst e
        have := lk_r (L := ba) (K := [(z, p.2)]) (k := 0)
        rw [Nat.add_zero, lk_0] at this
        rw [this]
        exact tv
      · rw [lk_l (by omega), tl _ (by omega) (by omega)]
        exact hba.2 k (by omega)
  have es : nI (enc p) - nI z = nI (enc (p.1 - z, p.2)) := by
    rw [pk_sub (by unfold enc; omega)]
    exact nI_inj (by unfold enc; show _ = p.1 - z + 512 * p.2; omega)
  rw [f_X8_overflows_J45, r_amountOf hp hp2]
  simp only [Option.bind_some, lt_v]
  rw [ev, show S (145 : Int32).toNatClampNeg = nI ba.length from e145, fa_lit 146, nI_add, gd_t eg]
  simp only [c34, c35, c145, v_cl (show 146 + ba.length < 2 ^ 31 by omega)]
  rw [w145, nI_1, hT, w35, es, pk_sub hl, pk_us, r_amountOf (p := (p.1 - z, p.2)) (by show p.1 - z < 512; omega) hp2]
  simp only [Option.bind_some]
  by_cases c : z = p.1
  · have u34 : upd (upd T 35 (nI (enc (p.1 - z, p.2)))) 34 (nI L.length) 34 = nI L.length := pk_us
    have z34 : upd T 35 (nI (enc (p.1 - z, p.2))) 34 = nI (L.length + 1) := ((pk_un (by decide)).trans (tl 34 (by decide) (by omega))).trans e34
    obtain ⟨S', a1, a2, a3⟩ := r_ovL125 (r17 := r17) (y1 := nI (l - z)) hlen L.length 0 FU _ (by omega) (by show _ < 20000; omega) u34
    refine ⟨S', ?_, hrw S' (fun i h1 h2 => ?_), fun _ => ⟨?_, fun k hk => ?_⟩, fun q => absurd q (by omega), fun i hi => ?_⟩
    · rw [if_pos (by show nI (p.1 - z) = 0; rw [c, Nat.sub_self]; exact nI_0), z34, nI_pred]
      rw [← nI_0, a1]
    · rw [a3 i (Or.inr (by omega)), pk_un (by omega), pk_un (by omega)]
    · rw [a3 34 (Or.inl (by decide)), pk_us]
    · have h1 := hch.2 (k + 1) (by simp only [List.length_cons]; omega)
      rw [lk_s] at h1
      rw [a2 k (by omega) hk, pk_un (by omega), pk_un (by omega), tl _ (by omega) (by omega), ← h1]
      congr 1
    · rw [a3 i (by omega), pk_un (by omega), pk_un (by omega), tl _ (by omega) (by omega)]
  · refine ⟨upd T 35 (nI (enc (p.1 - z, p.2))), ?_, hrw _ (fun i h1 h2 => pk_un (by omega)), fun q => absurd q c, fun _ => ⟨?_, fun k hk => ?_⟩, fun i hi => ?_⟩
    · rw [if_neg (nI_ne0 (by show 0 < p.1 - z; omega) (by show p.1 - z < _; omega)), f_X8_overflows_J165]
    · rw [pk_un (by decide), tl 34 (by decide) (by omega), e34]; rfl
    · cases k with
      | zero =>
        rw [lk_0]
        exact pk_us
      | succ k =>
        simp only [List.length_cons] at hk
        have h1 := hch.2 (k + 1) (by simp only [List.length_cons]; omega)
        rw [lk_s] at h1 ⊢
        rw [pk_un (by omega), tl _ (by omega) (by omega)]
        exact h1
    · rw [pk_un (by omega), tl _ (by omega) (by omega)]
theorem r_over_L : ∀ (L : List (Nat × Nat)) (l fuel : Nat) (ba : List (Nat × Nat)) (S : Nat → Int32), okP L → rwM 34 L S → rwM 145 ba S → l ≤ tot L → l < 2 ^ 20 → L.length ≤ 109 → ba.length + (tk l L).1.length ≤ 400 → L.length < fuel →
    ∃ S', f_X8_overflows_L17 fuel (nI l) S = some S' ∧ rwM 34 (tk l L).2 S' ∧ rwM 145 (ba ++ (tk l L).1) S' ∧ ∀ i, (i < 34 ∨ 546 ≤ i) → S' i = S i := by
  intro L
  induction L with
  | nil =>
    intro l fuel ba S hok hch hba hl hl2 hlen hlen2 hf
    obtain ⟨fu, rfl⟩ : ∃ fu, fuel = fu + 1 := ⟨fuel - 1, by omega⟩
    have : l = 0 := Nat.le_zero.mp hl
    subst this
    rw [f_X8_overflows_L17, if_pos (by rw [nI_0]; exact Int32.le_refl 0)]
    refine ⟨S, rfl, hch, ?_, fun i _ => rfl⟩
    rw [tk_0, List.append_nil]
    exact hba
  | cons p L ih =>
    intro l fuel ba S hok hch hba hl hl2 hlen hlen2 hf
    obtain ⟨fu, rfl⟩ : ∃ fu, fuel = fu + 1 := ⟨fuel - 1, by omega⟩
    simp only [List.length_cons] at hlen hf
    by_cases h0 : l = 0
    · subst h0
      rw [f_X8_overflows_L17, if_pos (by rw [nI_0]; exact Int32.le_refl 0)]
      refine ⟨S, rfl, ?_, ?_, fun i _ => rfl⟩
      · rw [tk_0]; exact hch
      · rw [tk_0, List.append_nil]
        exact hba
    · have hp := hok p List.mem_cons_self
      have e35 : S 35 = nI (enc p) := hch.2 0 (Nat.succ_pos _)
      rw [f_X8_overflows_L17, if_neg (nI_nle (by omega) (by omega)), c35, e35]
      simp only [lt_v]
      rw [r_amountOf hp.2.1 hp.2.2]
      simp only [Option.bind_some]
      by_cases h1 : l < p.1
      · rw [tk, if_neg h0, if_pos h1] at hlen2 ⊢
        simp only [List.length_cons, List.length_nil] at hlen2
        obtain ⟨S', a1, a2, a3, a4, a5⟩ := r_J45 (r17 := f_X8_overflows_L17 fu) hch hba hp.2.1 hp.2.2 (show 1 ≤ l by omega) (by omega) (Nat.le_refl l) hl2 (by omega) (by omega)
        refine ⟨S', ?_, a4 h1, a2, a5⟩
        rw [if_pos (nI_le (by omega) (by omega)), a1, Nat.sub_self]
        obtain ⟨fu2, rfl⟩ : ∃ fu2, fu = fu2 + 1 := ⟨fu - 1, by omega⟩
        rw [f_X8_overflows_L17, if_pos (by rw [nI_0]; exact Int32.le_refl 0)]
      · rw [tk, if_neg h0, if_neg h1] at hlen2 ⊢
        simp only [List.length_cons] at hlen2
        obtain ⟨S1, a1, a2, a3, a4, a5⟩ := r_J45 (r17 := f_X8_overflows_L17 fu) (z := p.1) hch hba hp.2.1 hp.2.2 hp.1 (Nat.le_refl _) (by omega) hl2 (by omega) (by omega)
        obtain ⟨S', b1, b2, b3, b4⟩ := ih (l - p.1) fu (ba ++ [(p.1, p.2)]) S1 (fun q hq => hok q (List.mem_cons_of_mem _ hq)) (a3 rfl) a2 (by simp only [tot] at hl; omega) (by omega) (by omega) (by rw [List.length_append, List.length_singleton]; omega) (by omega)
        refine ⟨S', ?_, b2, ?_, fun i hi => (b4 i hi).trans (a5 i hi)⟩
        · rw [← b1, ← a1]
          by_cases h2 : l = p.1
          · rw [if_pos (nI_le (by omega) (by omega)), h2]
          · rw [if_neg (nI_ge (by omega) (by omega))]
        · rw [app1] at b3
          exact b3
