/-! doing the orders of the text, on both sides -/
noncomputable def exA (o : Nat × Nat × Nat) (σ : Sp) : Int32 := if o.1 = 98 then a_dial (nI o.2.1) (nI o.2.2) (v_b0 σ) (v_b1 σ) else if o.1 = 102 then a_fill (nI o.2.1) (nI o.2.2) (v_lo σ) else if o.1 = 103 then a_grind (nI o.2.1) (nI o.2.2) (v_lo σ) (v_ch σ) (v_ba σ) (v_st σ 2) else if o.1 = 115 then a_shot (v_st σ) (v_ba σ) else if o.1 = 119 then a_rest (nI o.2.1) (v_b0 σ).2.1 (v_b1 σ).2.1 (v_se σ) else nI (tot (v_ch σ))
def exS (o : Nat × Nat × Nat) (σ : Sp) : Sp := if o.1 = 98 then o_dial (nx (nI o.2.1)) (nx (nI o.2.2)) σ else if o.1 = 102 then o_fill (nx (nI o.2.1)) (nx (nI o.2.2)) σ else if o.1 = 103 then o_grind (nx (nI o.2.1)) (nx (nI o.2.2)) σ else if o.1 = 115 then o_shot σ else if o.1 = 119 then o_rest (nx (nI o.2.1)) σ else o_purge σ
theorem ex_K {o : Nat × Nat × Nat} {σ : Sp} {B : Nat} (hk : KK σ B) (h : 0 ≤ exA o σ) : KK (exS o σ) (B + 3000) := by
  unfold exA at h
  unfold exS
  by_cases c1 : o.1 = 98
  · rw [if_pos c1] at h ⊢
    exact KK_up (K_dial hk h) (by omega)
  rw [if_neg c1] at h ⊢
  by_cases c2 : o.1 = 102
  · rw [if_pos c2] at h ⊢
    exact KK_up (K_fill hk h) (by omega)
  rw [if_neg c2] at h ⊢
  by_cases c3 : o.1 = 103
  · rw [if_pos c3] at h ⊢
    exact K_grind hk h
  rw [if_neg c3] at h ⊢
  by_cases c4 : o.1 = 115
  · rw [if_pos c4]
    exact K_shot hk
  rw [if_neg c4] at h ⊢
  by_cases c5 : o.1 = 119
  · rw [if_pos c5] at h ⊢
    exact K_rest hk h
  rw [if_neg c5]
  exact KK_up (K_purge hk) (by omega)
theorem p_ex {o : Nat × Nat × Nat} {σ : Sp} {g : Gr} {B : Nat} {c a b : Int32} (hg : GR σ g) (hk : KK σ B) (hB : B < 2 ^ 28) (ho : ordK o c a b) : ∃ R, f_X4_doOrderOn c a b g = some R ∧ R.1 = exA o σ ∧ (0 ≤ R.1 → GR (exS o σ) R.2) := by
  obtain ⟨rfl, n1, n2, hc⟩ := ho
  have ho1 : o.1 < 2 ^ 31 := by omega
  have ne : ∀ n : Nat, n < 2 ^ 31 → o.1 ≠ n → ¬ nI o.1 = nI n := fun n hn q z => q ((nI_eq ho1 hn).mp z)
  unfold exA exS
  rw [f_X4_doOrderOn]
  by_cases c1 : o.1 = 98
  · rw [if_pos c1, if_pos c1, if_pos (show nI o.1 = (98 : Int32) from congrArg nI c1)]
    have h2 : a = nI o.2.1 ∧ b = nI o.2.2 := by
      rcases hc with ⟨-, h1, h2⟩ | ⟨q, -⟩ | q | q
      · exact ⟨h1, h2⟩
      · omega
      · omega
      · omega
    rw [h2.1, h2.2]
    obtain ⟨R, e1, e2, e3⟩ := G_turnDial hg hk (nI o.2.1) (nI o.2.2)
    rw [e1, Option.bind_some]
    exact ⟨_, rfl, e2, e3⟩
  rw [if_neg c1, if_neg c1, if_neg (show ¬ nI o.1 = (98 : Int32) from ne 98 (by decide) c1)]
  by_cases c2 : o.1 = 102
  · rw [if_pos c2, if_pos c2, if_pos (show nI o.1 = (102 : Int32) from congrArg nI c2)]
    have h2 : a = nI o.2.1 ∧ b = nI o.2.2 := by
      rcases hc with ⟨-, h1, h2⟩ | ⟨q, -⟩ | q | q
      · exact ⟨h1, h2⟩
      · omega
      · omega
      · omega
    rw [h2.1, h2.2]
    obtain ⟨R, e1, e2, e3⟩ := G_fillIn hg hk (nI o.2.1) (nI o.2.2)
    rw [e1, Option.bind_some]
    exact ⟨_, rfl, e2, e3⟩
  rw [if_neg c2, if_neg c2, if_neg (show ¬ nI o.1 = (102 : Int32) from ne 102 (by decide) c2)]
  by_cases c3 : o.1 = 103
  · rw [if_pos c3, if_pos c3, if_pos (show nI o.1 = (103 : Int32) from congrArg nI c3)]
    have h2 : a = nI o.2.1 ∧ b = nI o.2.2 := by
      rcases hc with ⟨-, h1, h2⟩ | ⟨q, -⟩ | q | q
      · exact ⟨h1, h2⟩
      · omega
      · omega
      · omega
    rw [h2.1, h2.2]
    obtain ⟨R, e1, e2, e3⟩ := G_grindBy hg hk hB (nI o.2.1) (nI o.2.2)
    rw [e1, Option.bind_some]
    exact ⟨_, rfl, e2, e3⟩
  rw [if_neg c3, if_neg c3, if_neg (show ¬ nI o.1 = (103 : Int32) from ne 103 (by decide) c3)]
  by_cases c4 : o.1 = 115
  · rw [if_pos c4, if_pos c4, if_pos (show nI o.1 = (115 : Int32) from congrArg nI c4)]
    obtain ⟨R, e1, e2, e3⟩ := G_makeShot hg hk hB
    rw [e1, Option.bind_some]
    exact ⟨_, rfl, e2, fun q => (e3 q).2⟩
  rw [if_neg c4, if_neg c4, if_neg (show ¬ nI o.1 = (115 : Int32) from ne 115 (by decide) c4)]
  by_cases c5 : o.1 = 119
  · rw [if_pos c5, if_pos c5, if_pos (show nI o.1 = (119 : Int32) from congrArg nI c5)]
    have h2 : a = nI o.2.1 := by
      rcases hc with ⟨q, -⟩ | ⟨-, h1⟩ | q | q
      · omega
      · exact h1
      · omega
      · omega
    rw [h2]
    obtain ⟨R, e1, e2, e3⟩ := G_letPass hg hk hB (nI o.2.1)
    rw [e1, Option.bind_some]
    exact ⟨_, rfl, e2, e3⟩
  rw [if_neg c5, if_neg c5, if_neg (show ¬ nI o.1 = (119 : Int32) from ne 119 (by decide) c5)]
  obtain ⟨R, e1, e2, e3⟩ := G_emptyChute hg
  rw [e1, Option.bind_some]
  exact ⟨_, rfl, e2, fun _ => e3⟩
theorem r_ex {o : Nat × Nat × Nat} {σ : Sp} {hs : List Sp} {B : Nat} {S P told : Nat → Int32} {pasts runs c : Int32} (h : PR hs P pasts) (hm : MR σ S) (hk : KK σ B) (hK : KH hs B) (hB : B < 2 ^ 28) (hr : runs = 0 ∨ runs = 1) (ho : ordK o c (told 0) (told 1)) : ∃ R, f_X8_calls S P told pasts runs c = some R ∧ RC σ (exS o σ) hs (exA o σ) S P pasts runs R := by
  obtain ⟨rfl, n1, n2, hc⟩ := ho
  have ho1 : o.1 < 2 ^ 31 := by omega
  have ne : ∀ n : Nat, n < 2 ^ 31 → o.1 ≠ n → ¬ nI o.1 = nI n := fun n hn q z => q ((nI_eq ho1 hn).mp z)
  have t0 : told (0 : Int32).toNatClampNeg = told 0 := rfl
  have t1 : told (1 : Int32).toNatClampNeg = told 1 := rfl
  unfold exA exS
  rw [f_X8_calls, t0, t1]
  by_cases c1 : o.1 = 98
  · rw [if_pos c1, if_pos c1, if_pos (show nI o.1 = (98 : Int32) from congrArg nI c1)]
    have h2 : told 0 = nI o.2.1 ∧ told 1 = nI o.2.2 := by
      rcases hc with ⟨-, h1, h2⟩ | ⟨q, -⟩ | q | q
      · exact ⟨h1, h2⟩
      · omega
      · omega
      · omega
    rw [h2.1, h2.2]
    obtain ⟨R, e1, e2⟩ := r_dial h hm hk hK hr (nI o.2.1) (nI o.2.2)
    rw [e1, Option.bind_some]
    exact ⟨_, rfl, e2⟩
  rw [if_neg c1, if_neg c1, if_neg (show ¬ nI o.1 = (98 : Int32) from ne 98 (by decide) c1)]
  by_cases c2 : o.1 = 102
  · rw [if_pos c2, if_pos c2, if_pos (show nI o.1 = (102 : Int32) from congrArg nI c2)]
    have h2 : told 0 = nI o.2.1 ∧ told 1 = nI o.2.2 := by
      rcases hc with ⟨-, h1, h2⟩ | ⟨q, -⟩ | q | q
      · exact ⟨h1, h2⟩
      · omega
      · omega
      · omega
    rw [h2.1, h2.2]
    obtain ⟨R, e1, e2⟩ := r_fill h hm hk hK hr (nI o.2.1) (nI o.2.2)
    rw [e1, Option.bind_some]
    exact ⟨_, rfl, e2⟩
  rw [if_neg c2, if_neg c2, if_neg (show ¬ nI o.1 = (102 : Int32) from ne 102 (by decide) c2)]
  by_cases c3 : o.1 = 103
  · rw [if_pos c3, if_pos c3, if_pos (show nI o.1 = (103 : Int32) from congrArg nI c3)]
    have h2 : told 0 = nI o.2.1 ∧ told 1 = nI o.2.2 := by
      rcases hc with ⟨-, h1, h2⟩ | ⟨q, -⟩ | q | q
      · exact ⟨h1, h2⟩
      · omega
      · omega
      · omega
    rw [h2.1, h2.2]
    obtain ⟨R, e1, e2⟩ := r_grind h hm hk hK hB hr (nI o.2.1) (nI o.2.2)
    rw [e1, Option.bind_some]
    exact ⟨_, rfl, e2⟩
  rw [if_neg c3, if_neg c3, if_neg (show ¬ nI o.1 = (103 : Int32) from ne 103 (by decide) c3)]
  by_cases c4 : o.1 = 115
  · rw [if_pos c4, if_pos c4, if_pos (show nI o.1 = (115 : Int32) from congrArg nI c4)]
    obtain ⟨R, e1, e2⟩ := r_shot h hm hk hK hB hr
    rw [e1, Option.bind_some]
    exact ⟨_, rfl, e2⟩
  rw [if_neg c4, if_neg c4, if_neg (show ¬ nI o.1 = (115 : Int32) from ne 115 (by decide) c4)]
  by_cases c5 : o.1 = 119
  · rw [if_pos c5, if_pos c5, if_pos (show nI o.1 = (119 : Int32) from congrArg nI c5)]
    have h2 : told 0 = nI o.2.1 := by
      rcases hc with ⟨q, -⟩ | ⟨-, h1⟩ | q | q
      · omega
      · exact h1
      · omega
      · omega
    rw [h2]
    obtain ⟨R, e1, e2⟩ := r_rest h hm hk hK hB hr (nI o.2.1)
    rw [e1, Option.bind_some]
    exact ⟨_, rfl, e2⟩
  rw [if_neg c5, if_neg c5, if_neg (show ¬ nI o.1 = (119 : Int32) from ne 119 (by decide) c5)]
  obtain ⟨R, e1, e2⟩ := r_purge h hm hk hK hr
  rw [e1, Option.bind_some]
  exact ⟨_, rfl, e2⟩
/-- the orders from i on, k done so far: the fault (place, reason, cause), how many are done, the state then -/
noncomputable def pl (tx : List Nat) : Nat → Nat → Nat → Sp → Option (Nat × Int32 × Int32) × Nat × Sp
  | 0, _, k, σ => (none, k, σ)
  | n + 1, i, k, σ => if tx.length ≤ i then (none, k, σ) else match (rd tx i).1 with
    | none => (some (i, 1, nI ((rd tx i).2 - i)), k, σ)
    | some o => if 0 ≤ exA o σ then pl tx n (rd tx i).2 (k + 1) (exS o σ) else (some (i, 2, exA o σ), k, σ)
theorem pl_K (tx : List Nat) {B : Nat} : ∀ (n i k : Nat) (σ : Sp), i ≤ tx.length → 2 * k ≤ i → KK σ (B + 3000 * k) → (pl tx n i k σ).1 = none → KK (pl tx n i k σ).2.2 (B + 1500 * tx.length) ∧ (pl tx n i k σ).2.1 ≤ tx.length
  | 0, i, k, σ, hi, h2, hk, _ => ⟨KK_up hk (by omega), by show k ≤ _; omega⟩
  | n + 1, i, k, σ, hi, h2, hk, hn => by
    rw [pl] at hn ⊢
    by_cases c : tx.length ≤ i
    · rw [if_pos c]
      exact ⟨KK_up hk (by omega), by show k ≤ _; omega⟩
    · rw [if_neg c] at hn ⊢
      cases e : (rd tx i).1 with
      | none => rw [e] at hn; cases hn
      | some o =>
        rw [e] at hn
        simp only at hn ⊢
        by_cases d : 0 ≤ exA o σ
        · rw [if_pos d] at hn ⊢
          have hmv := rd_mv e
          exact pl_K tx n (rd tx i).2 (k + 1) (exS o σ) hmv.2 (by omega) (KK_up (ex_K hk d) (by omega)) hn
        · rw [if_neg d] at hn
          cases hn
theorem p_pl {tx : List Nat} {sg : Nat → Int32} {oL : Int32} {B : Nat} (h : TX tx sg oL) (hB : B + 200000 < 2 ^ 28) : ∀ (n i k fuel : Nat) (σ : Sp) (g : Gr) (oC oF oS oP oU : Int32), tx.length ≤ i + n → i ≤ tx.length → 2 * k ≤ i → n < fuel → GR σ g → KK σ (B + 3000 * k) →
    ∃ R, f_X4_doAllOn_L15 sg oL fuel (nI i) oC oF oS (nI k) oP 0 oU g = some R ∧ (((pl tx n i k σ).1 = none ∧ R.2.2.2.2.2.2.1 = 0 ∧ R.2.2.2.2.1 = nI (pl tx n i k σ).2.1 ∧ GR (pl tx n i k σ).2.2 R.2.2.2.2.2.2.2.2) ∨ ∃ f, (pl tx n i k σ).1 = some f ∧ (f.2.1 = 1 ∨ f.2.1 = 2) ∧ R.2.2.2.2.2.2.1 = f.2.1 ∧ R.2.2.2.2.2.1 = nI f.1 ∧ R.2.2.2.2.2.2.2.1 = f.2.2) := by
  have hlen := h.2.1
  intro n
  induction n with
  | zero =>
    intro i k fuel σ g oC oF oS oP oU hn hi hk2 hf hg hk
    obtain ⟨fu, rfl⟩ : ∃ fu, fuel = fu + 1 := ⟨fuel - 1, by omega⟩
    rw [f_X4_doAllOn_L15, if_neg (show ¬ (60 : Int32) ≤ nI k from nI_ge (b := 60) (by omega) (by decide)), h.1, if_pos (nI_le (by omega) (by omega))]
    exact ⟨_, rfl, Or.inl ⟨rfl, rfl, rfl, hg⟩⟩
  | succ n ih =>
    intro i k fuel σ g oC oF oS oP oU hn hi hk2 hf hg hk
    obtain ⟨fu, rfl⟩ : ∃ fu, fuel = fu + 1 := ⟨fuel - 1, by omega⟩
    rw [f_X4_doAllOn_L15, if_neg (show ¬ (60 : Int32) ≤ nI k from nI_ge (b := 60) (by omega) (by decide)), h.1]
    rw [pl]
    by_cases c : tx.length ≤ i
    · rw [if_pos (nI_le c (by omega)), if_pos c]
      exact ⟨_, rfl, Or.inl ⟨rfl, rfl, rfl, hg⟩⟩
    · rw [if_neg (nI_ge (by omega) (by omega)), if_neg c]
      obtain ⟨R, r1, r2, r3⟩ := p_rd h (i := i) (by omega) oC oF oS
      have hrl := rd_le tx i
      rw [h.1] at r1
      rw [r1, Option.bind_some]
      rcases r3 with ⟨e, f0⟩ | ⟨o, e, f1, ho⟩
      · rw [e, f0, if_pos rfl, f_X4_blame, Option.bind_some, r2, pk_sub hrl.1]
        exact ⟨_, rfl, Or.inr ⟨_, rfl, Or.inl rfl, rfl, rfl, rfl⟩⟩
      · have hmv := rd_mv e
        obtain ⟨R2, s1, s2, s3⟩ := p_ex hg hk (by omega) ho
        rw [e, f1, if_neg n10, s1, Option.bind_some]
        simp only
        by_cases d : 0 ≤ R2.1
        · have d' : 0 ≤ exA o σ := s2 ▸ d
          obtain ⟨R3, t1, t2⟩ := ih (rd tx i).2 (k + 1) fu (exS o σ) R2.2 R.2.2.1 R.2.2.2.1 R.2.2.2.2 oP oU (by omega) hmv.2 (by omega) (by omega) (s3 d) (KK_up (ex_K hk d') (by omega))
          rw [h.1] at t1
          rw [if_pos d, if_pos d', lt_v, r2, nI_1, t1]
          exact ⟨R3, rfl, t2⟩
        · have d' : ¬ 0 ≤ exA o σ := s2 ▸ d
          rw [if_neg d, if_neg d', f_X4_blame, Option.bind_some]
          exact ⟨_, rfl, Or.inr ⟨_, rfl, Or.inr rfl, rfl, rfl, s2⟩⟩
theorem r_pl {tx : List Nat} {Tx : Nat → Int32} {typed : Int32} {B : Nat} {hs : List Sp} {P : Nat → Int32} {pasts : Int32} (h : TX tx Tx typed) (hB : B + 200000 < 2 ^ 28) (hP : PR hs P pasts) (hK : KH hs B) : ∀ (n i k fuel : Nat) (σ : Sp) (S told : Nat → Int32) (frm reas caus ordr : Int32), tx.length ≤ i + n → i ≤ tx.length → 2 * k ≤ i → n + 1 < fuel → MR σ S → KK σ (B + 3000 * k) →
    ∃ R, f_X8_plays_L22 Tx typed fuel 1 S P told pasts 1 (nI i) frm reas caus (nI k) ordr = some R ∧ R.2.2.1 = P ∧ R.2.2.2.2.1 = pasts ∧ R.2.2.2.2.2.1 = 0 ∧ (((pl tx n i k σ).1 = none ∧ R.1 = 1 ∧ R.2.2.2.2.2.2.2.2.2.2.1 = nI (pl tx n i k σ).2.1 ∧ MR (pl tx n i k σ).2.2 R.2.1) ∨ ∃ f, (pl tx n i k σ).1 = some f ∧ R.1 = 0 ∧ R.2.2.2.2.2.2.2.2.1 = f.2.1 ∧ R.2.2.2.2.2.2.2.1 = nI f.1 ∧ R.2.2.2.2.2.2.2.2.2.1 = f.2.2) := by
  have hlen := h.2.1
  -- a fault ends the loop at its next turn
  have stop : ∀ (fuel i : Nat) (S told : Nat → Int32) (frm reas caus ords ordr : Int32), 0 < fuel → f_X8_plays_L22 Tx typed fuel 0 S P told pasts 1 (nI i) frm reas caus ords ordr = some (0, S, P, told, pasts, 0, nI i, frm, reas, caus, ords, ordr) := by
    intro fuel i S told frm reas caus ords ordr hf
    obtain ⟨fu, rfl⟩ : ∃ fu, fuel = fu + 1 := ⟨fuel - 1, by omega⟩
    rw [f_X8_plays_L22, if_pos rfl, f_X8_plays_J124, gd_t (Or.inl rfl)]
    split <;> rfl
  intro n
  induction n with
  | zero =>
    intro i k fuel σ S told frm reas caus ordr hn hi hk2 hf hm hk
    obtain ⟨fu, rfl⟩ : ∃ fu, fuel = fu + 1 := ⟨fuel - 1, by omega⟩
    rw [f_X8_plays_L22, h.1, if_pos (nI_le (by omega) (by omega)), f_X8_plays_J124, gd_t (Or.inr rfl)]
    exact ⟨_, rfl, rfl, rfl, rfl, Or.inl ⟨rfl, rfl, rfl, hm⟩⟩
  | succ n ih =>
    intro i k fuel σ S told frm reas caus ordr hn hi hk2 hf hm hk
    obtain ⟨fu, rfl⟩ : ∃ fu, fuel = fu + 1 := ⟨fuel - 1, by omega⟩
    rw [f_X8_plays_L22]
    rw [pl]
    by_cases c : tx.length ≤ i
    · rw [if_pos (show typed ≤ nI i by rw [h.1]; exact nI_le c (by omega)), if_pos c, f_X8_plays_J124, gd_t (Or.inr rfl)]
      exact ⟨_, rfl, rfl, rfl, rfl, Or.inl ⟨rfl, rfl, rfl, hm⟩⟩
    · obtain ⟨R, r1, r2, r3⟩ := r_rd h (i := i) (by omega) told ordr
      have hrl := rd_le tx i
      rw [if_neg (show ¬ typed ≤ nI i by rw [h.1]; exact nI_ge (by omega) (by omega)), if_neg c, if_neg n10, r1, Option.bind_some]
      rcases r3 with ⟨e, f0⟩ | ⟨o, e, f1, ho⟩
      · rw [e, f0, if_pos rfl, f_X8_plays_J62, if_pos rfl, f_X8_plays_J75, f_X8_plays_J76, if_pos rfl, f_X8_plays_J87, if_pos rfl, f_X8_plays_J108, lt_v, r2, pk_sub hrl.1, stop fu _ _ _ _ _ _ _ _ (by omega)]
        exact ⟨_, rfl, rfl, rfl, rfl, Or.inr ⟨_, rfl, rfl, rfl, rfl, rfl⟩⟩
      · have hmv := rd_mv e
        have hK' : KH hs (B + 3000 * k) := fun τ hτ => KK_up (hK τ hτ) (by omega)
        obtain ⟨R2, s1, s2, s3, s4⟩ := r_ex hP hm hk hK' (by omega) (Or.inr rfl) ho
        rw [e, f1, if_neg n10, s1, Option.bind_some, f_X8_plays_J62, if_neg n10]
        simp only
        by_cases d : 0 ≤ exA o σ
        · obtain ⟨a1, a2, a3⟩ := s4 d
          have a2' := a2 rfl
          have aP : R2.2.2.1 = P := congrArg Prod.fst a2'
          have ap : R2.2.2.2 = pasts := congrArg Prod.snd a2'
          obtain ⟨R3, t1, t2⟩ := ih (rd tx i).2 (k + 1) fu (exS o σ) R2.2.1 R.2.1 (nI i) 2 (exA o σ) R.2.2.2 (by omega) hmv.2 (by omega) (by omega) a1 (KK_up (ex_K hk d) (by omega))
          rw [if_pos d, s2, if_neg (Int32.not_lt.mpr d), f_X8_plays_J76, if_neg n10, f_X8_plays_J87, if_neg n10, f_X8_plays_J108, lt_v, aP, ap, r2, nI_1, t1]
          exact ⟨R3, rfl, t2⟩
        · have d2 := Int32.not_le.mp d
          have a4 := s3 d2
          have aP : R2.2.2.1 = P := congrArg (fun q => q.2.1) a4
          have ap : R2.2.2.2 = pasts := congrArg (fun q => q.2.2) a4
          rw [if_neg d, s2, if_pos d2, f_X8_plays_J75, f_X8_plays_J76, if_neg n10, f_X8_plays_J87, if_neg n10, f_X8_plays_J108, lt_v, aP, ap, r2, stop fu _ _ _ _ _ _ _ _ (by omega)]
          exact ⟨_, rfl, rfl, rfl, rfl, Or.inr ⟨_, rfl, rfl, rfl, rfl, rfl⟩⟩
