/-! arguments -/
theorem ngA {P : Prop} (h : 0 ≤ (-1000001 : Int32)) : P := absurd h (by decide)
theorem ngB {P : Prop} (h : 0 ≤ (-1000002 : Int32)) : P := absurd h (by decide)
theorem ngC {P : Prop} (h : 0 ≤ (-1000003 : Int32)) : P := absurd h (by decide)
theorem ngD {P : Prop} (h : 0 ≤ (-1000004 : Int32)) : P := absurd h (by decide)
theorem v01 {x : Int32} (h : x = 0 ∨ x = 1) : ∃ k : Nat, k < 2 ∧ x = nI k := by
  rcases h with rfl | rfl
  · exact ⟨0, by decide, rfl⟩
  · exact ⟨1, by decide, rfl⟩
theorem v_rng {x : Int32} {hi : Nat} (hh : hi < 2 ^ 31) (h1 : ¬ x < 1) (h2 : ¬ nI hi < x) : ∃ a : Nat, 1 ≤ a ∧ a ≤ hi ∧ x = nI a := by
  have e1 : ¬ x < 0 := fun q => h1 (by
    rw [Int32.lt_iff_toInt_lt] at q ⊢
    rw [Int32.toInt_zero] at q
    rw [fa_L, nI_toInt (by decide)]
    omega)
  obtain ⟨j, hj, rfl⟩ := nI_of e1
  refine ⟨j, ?_, ?_, rfl⟩
  · rcases Nat.lt_or_ge j 1 with q | q
    · exact absurd (nI_lt q (by decide)) h1
    · exact q
  · rcases Nat.lt_or_ge hi j with q | q
    · exact absurd (nI_lt q hj) h2
    · exact q
theorem v_cl {k : Nat} (h : k < 2 ^ 31) : (nI k).toNatClampNeg = k := nI_clamp h
theorem is01_t {k : Nat} (h : k < 2) : f_X7_isZeroOrOne (nI k) = some 1 := by
  rw [p_is01]
  rcases (show k = 0 ∨ k = 1 by omega) with rfl | rfl <;> rfl
theorem is01_f {x : Int32} (h : ¬ (x = 0 ∨ x = 1)) : f_X7_isZeroOrOne x = some 0 := by
  rw [p_is01, if_neg h]
/-! what a grinder's calls answer, and what it is then -/
abbrev cIA : Int32 := -1000001
abbrev cNP : Int32 := -1000002
abbrev cLR : Int32 := -1000003
abbrev cNF : Int32 := -1000004
abbrev bad2 (x1 x2 : Int32) (hi : Nat) : Prop := ¬ (x1 = 0 ∨ x1 = 1) ∨ x2 < 1 ∨ nI hi < x2
def full (k a : Nat) (L : List (Nat × Nat)) : Prop := 4000 < tot L + a ∨ (¬ L.length < 6 ∧ ends k L = false)
noncomputable def a_fill (x1 x2 : Int32) (L : List (Nat × Nat)) : Int32 := by
  classical
  exact if bad2 x1 x2 999 then cIA else if full x1.toNatClampNeg x2.toNatClampNeg L then cLR else nI (tot L + x2.toNatClampNeg)
theorem p_fillIn {L : List (Nat × Nat)} {A M : Nat → Int32} {n t : Int32} (hr : rowR L A M n t) (hok : okR L) (hT : tot L ≤ 4000) (hn : L.length ≤ 6) (x1 x2 fi : Int32) : ∃ R, f_X1_fillIn x1 x2 A M n t fi = some R ∧ R.1 = a_fill x1 x2 L ∧ (0 ≤ R.1 → rowR (pour x1.toNatClampNeg x2.toNatClampNeg L) R.2.1 R.2.2.1 R.2.2.2.1 R.2.2.2.2.1 ∧ R.2.2.2.2.2 = fi + x2) := by
  unfold a_fill
  rw [f_X1_fillIn]
  by_cases h1 : x1 = 0 ∨ x1 = 1
  · obtain ⟨k, hk, rfl⟩ := v01 h1
    rw [is01_t hk]
    simp only [Option.bind_some]
    rw [if_neg (by decide)]
    by_cases h2 : x2 < 1
    · rw [if_pos h2, if_pos (Or.inr (Or.inl h2))]
      exact ⟨_, rfl, rfl, (by first | exact ngA | exact ngB | exact ngC | exact ngD)⟩
    · rw [if_neg h2]
      by_cases h3 : (999 : Int32) < x2
      · rw [if_neg (Int32.not_le.mpr h3), if_pos (show bad2 _ _ 999 from Or.inr (Or.inr h3))]
        exact ⟨_, rfl, rfl, (by first | exact ngA | exact ngB | exact ngC | exact ngD)⟩
      · obtain ⟨a, ha1, ha2, rfl⟩ := v_rng (hi := 999) (by decide) h2 h3
        rw [if_pos (Int32.not_lt.mp h3), if_neg (show ¬ bad2 _ _ 999 from fun q => by rcases q with q | q | q; exact q h1; exact h2 q; exact h3 q), v_cl (by omega), v_cl (by omega)]
        rw [f_X3_hasRoomFor, hr.2.1, nI_add, fa_lit 4000]
        by_cases h4 : 4000 < tot L + a
        · rw [if_pos (nI_lt h4 (by omega)), if_pos (show full k a L from Or.inl h4)]
          simp only [Option.bind_some]
          exact ⟨_, rfl, rfl, (by first | exact ngA | exact ngB | exact ngC | exact ngD)⟩
        · have hp : ∀ (h5 : ends k L = false → L.length < 6), ∃ R, f_X3_pourIn 6 (nI k) (nI a) A M n (nI (tot L)) = some R ∧ rowR (pour k a L) R.1 R.2.1 R.2.2.1 R.2.2.2 := fun h5 => by
            have := p_pour (N := 6) (k := k) (a := a) hr hn h5 (by decide) hok hk
            rw [hr.2.1] at this
            exact this
          rw [if_neg (nI_nlt (by omega) (by decide)), hr.1, fa_lit 6, p_ends (N := 6) (n := nI L.length) (hr.1 ▸ hr) hn (by decide) hok hk]
          by_cases h5 : L.length < 6
          · obtain ⟨R, e, hR⟩ := hp (fun _ => h5)
            rw [if_pos (nI_lt h5 (by decide)), if_neg (show ¬ full k a L from fun q => by rcases q with q | q <;> omega)]
            simp only [Option.bind_some, f_X3_hasRoomFor_J35]
            rw [if_neg (by decide), ← hr.1, e]
            simp only [Option.bind_some, lt_v, f_X3_amount]
            refine ⟨_, rfl, ?_, fun _ => ⟨hR, rfl⟩⟩
            show R.2.2.2 = _
            rw [hR.2.1, pour_tot]
          · rw [if_neg (nI_nlt (by omega) (by omega))]
            simp only [Option.bind_some]
            cases q : ends k L with
            | false =>
              rw [if_pos (show full k a L from Or.inr ⟨h5, q⟩), if_pos (show (if false = true then (1 : Int32) else 0) = 0 from rfl)]
              simp only [Option.bind_some]
              exact ⟨_, rfl, rfl, (by first | exact ngA | exact ngB | exact ngC | exact ngD)⟩
            | true =>
              obtain ⟨R, e, hR⟩ := hp (fun z => by rw [q] at z; cases z)
              rw [if_neg (show ¬ full k a L from fun z => by rcases z with z | z; (exact absurd z (by omega)); (rw [q] at z; exact absurd z.2 (by decide))), if_neg (show ¬ (if true = true then (1 : Int32) else 0) = 0 by decide)]
              simp only [Option.bind_some, f_X3_hasRoomFor_J35]
              rw [if_neg (by decide), ← hr.1, e]
              simp only [Option.bind_some, lt_v, f_X3_amount]
              refine ⟨_, rfl, ?_, fun _ => ⟨hR, rfl⟩⟩
              show R.2.2.2 = _
              rw [hR.2.1, pour_tot]
  · rw [is01_f h1]
    simp only [Option.bind_some]
    rw [if_pos trivial, if_pos (Or.inl h1)]
    exact ⟨_, rfl, rfl, (by first | exact ngA | exact ngB | exact ngC | exact ngD)⟩
theorem no_neg {c : Int32} {P : Prop} (h : c < 0) : 0 ≤ c → P := fun q => absurd q (by
  rw [Int32.le_iff_toInt_le]
  rw [Int32.lt_iff_toInt_lt] at h
  omega)
theorem p_maxz {a b : Nat} (ha : a < 2 ^ 30) (hb : b < 2 ^ 30) : (if (0 : Int32) < nI a - nI b then nI a - nI b else 0) = nI (a - b) := by
  by_cases h : b ≤ a
  · rw [pk_sub h]
    by_cases h2 : 0 < a - b
    · rw [if_pos (by rw [fa_L]; exact nI_lt h2 (by omega))]
    · rw [if_neg (by rw [fa_L]; exact nI_nlt (by omega) (by omega)), show a - b = 0 by omega, nI_0]
  · have hn := pk_sneg (a := a) (b := b) hb (by omega)
    rw [if_neg (fun q => ?_), show a - b = 0 by omega, nI_0]
    rw [Int32.lt_iff_toInt_lt] at hn q
    omega
/-- a burr behind a grinding -/
def buG (b : Bu) (a : Nat) : Bu := (b.1, min 300 (b.2.1 + a / 4), b.2.2.1 + nI a, b.2.2.2)
def buC (b : Bu) (n : Nat) : Bu := (b.1, cl n b.2.1, b.2.2.1, b.2.2.2)
/-- which portions come, what the chute has then, what comes out -/
def g_in (lo ch : List (Nat × Nat)) (d w b a : Nat) : List (Nat × Nat) := ch ++ mk2 (fun m => 4 * gp d w + 2 * b + m) (tk a lo).1
def g_out (ch : List (Nat × Nat)) (a c : Nat) : Nat := tot ch + a - c
theorem g_in_tot {lo ch : List (Nat × Nat)} {d w b a : Nat} (h : a ≤ tot lo) : tot (g_in lo ch d w b a) = tot ch + a := by
  unfold g_in
  rw [tot_app, mk2_tot, (tk_tot lo a).1]
  omega
theorem mk2_ok {L : List (Nat × Nat)} {g : Nat → Nat} (h : okR L) (hg : ∀ p ∈ L, g p.2 < 4096) : okR (mk2 g L) := fun q hq => by
  unfold mk2 at hq
  obtain ⟨p, hp, rfl⟩ := List.mem_map.mp hq
  have h1 := h p hp
  exact ⟨h1.1, h1.2.1, hg p hp⟩
theorem tk_mem {P : Nat → Prop} : ∀ {L : List (Nat × Nat)} (l : Nat), (∀ p ∈ L, P p.2) → (∀ p ∈ (tk l L).1, P p.2) ∧ ∀ p ∈ (tk l L).2, P p.2
  | [], l, h => ⟨h, h⟩
  | p :: L, l, h => by
    have h1 := h p List.mem_cons_self
    have h2 : ∀ q ∈ L, P q.2 := fun q hq => h q (List.mem_cons_of_mem _ hq)
    rw [tk]
    split
    · exact ⟨fun q hq => (by cases hq), h⟩
    · split
      · exact ⟨fun q hq => (by rcases List.mem_cons.mp hq with rfl | hq; exact h1; cases hq), fun q hq => (by rcases List.mem_cons.mp hq with rfl | hq; exact h1; exact h2 q hq)⟩
      · have h3 := tk_mem (l - p.1) h2
        exact ⟨fun q hq => (by rcases List.mem_cons.mp hq with rfl | hq; exact h1; exact h3.1 q hq), h3.2⟩
theorem gp_le {d w : Nat} (hd : d ≤ 60) : gp d w ≤ 600 := by unfold gp; omega
theorem gp_ge (d w : Nat) : 10 ≤ gp d w := by unfold gp; omega
theorem g_in_ok {lo ch : List (Nat × Nat)} {d w b a : Nat} (hlo : okR lo) (hk : ∀ p ∈ lo, p.2 < 2) (hch : okR ch) (hd : d ≤ 60) (hb : b < 2) : okR (g_in lo ch d w b a) := by
  have := gp_le (d := d) (w := w) hd
  refine okR_app hch (mk2_ok (tk_ok a hlo).1 (fun p hp => ?_))
  have := (tk_mem (P := fun m => m < 2) a hk).1 p hp
  omega
theorem g_in_mk {lo ch : List (Nat × Nat)} {d w b a : Nat} (hk : ∀ p ∈ lo, p.2 < 2) (hch : mkK ch) (hd : d ≤ 60) (hb : b < 2) : mkK (g_in lo ch d w b a) := by
  have h1 := gp_le (d := d) (w := w) hd
  have h2 := gp_ge d w
  intro q hq
  rcases List.mem_append.mp hq with hq | hq
  · exact hch q hq
  · unfold mk2 at hq
    obtain ⟨p, hp, rfl⟩ := List.mem_map.mp hq
    have := (tk_mem (P := fun m => m < 2) a hk).1 p hp
    exact ⟨by show 40 ≤ _ + _ + _; omega, by show _ + _ + _ < 2404; omega⟩
theorem g_in_len {lo ch : List (Nat × Nat)} {d w b a : Nat} : (g_in lo ch d w b a).length ≤ ch.length + lo.length := by
  unfold g_in
  rw [List.length_append, mk2_len]
  have := (tk_len lo a).1
  omega
theorem mk2_id (L : List (Nat × Nat)) : mk2 (fun m => m) L = L := by
  unfold mk2
  induction L with
  | nil => rfl
  | cons p L ih => rw [List.map_cons, ih]
/-- the beans' way: hopper, chute, basket (by one burr) -/
theorem p_way {lo ch ba : List (Nat × Nat)} {pA pM qA qM uA uM : Nat → Int32} {pn pt qn qt un ut : Int32} {d w b a c : Nat} (hlo : rowR lo pA pM pn pt) (hch : rowR ch qA qM qn qt) (hba : rowR ba uA uM un ut) (k1 : okR lo) (k2 : ∀ p ∈ lo, p.2 < 2) (k3 : tot lo ≤ 4000) (k4 : lo.length ≤ 6) (k5 : okR ch) (k6 : tot ch ≤ 100) (k7 : okR ba) (hd : d ≤ 60) (hb : b < 2) (ha : a ≤ tot lo) (ha2 : a ≤ 400) (hc : c ≤ 100) (ho : tot ba + g_out ch a c ≤ 400) :
    ∃ R R2, f_X3_letOut 6 106 (nI a) (nI b) (nI (gp d w)) pA pM pn pt qA qM qn qt = some R ∧ f_X5_letOut 106 400 (nI (g_out ch a c)) 0 R.2.2.2.2.1 R.2.2.2.2.2.1 R.2.2.2.2.2.2.1 R.2.2.2.2.2.2.2 uA uM un ut = some R2 ∧ rowR (tk a lo).2 R.1 R.2.1 R.2.2.1 R.2.2.2.1 ∧ rowR (tk (g_out ch a c) (g_in lo ch d w b a)).2 R2.1 R2.2.1 R2.2.2.1 R2.2.2.2.1 ∧ rowR (ba ++ (tk (g_out ch a c) (g_in lo ch d w b a)).1) R2.2.2.2.2.1 R2.2.2.2.2.2.1 R2.2.2.2.2.2.2.1 R2.2.2.2.2.2.2.2 := by
  have l1 := len_tot k5
  have l2 := len_tot k7
  have hg := gp_le (d := d) (w := w) hd
  obtain ⟨R, h1, h2, h3⟩ := p_letHop (N := 6) (N2 := 106) (l := a) (b := b) (gap := gp d w) (by decide) (by decide) k1 k2 hb (by omega) hlo hch ha (by omega) k4 (by omega)
  have t1 := g_in_tot (lo := lo) (ch := ch) (d := d) (w := w) (b := b) ha
  have o1 := g_in_ok (lo := lo) (ch := ch) (d := d) (w := w) (b := b) (a := a) k1 k2 k5 hd hb
  have n1 := g_in_len (lo := lo) (ch := ch) (d := d) (w := w) (b := b) (a := a)
  have o2 := (tk_ok (g_out ch a c) o1).1
  have t2 := (tk_tot (g_in lo ch d w b a) (g_out ch a c)).1
  have l3 := len_tot o2
  obtain ⟨R2, h4, h5, h6⟩ := p_letOut (N := 106) (N2 := 400) (l := g_out ch a c) (y2 := 0) (g := fun m => m) (L := g_in lo ch d w b a) (L2 := ba) (by decide) (by decide) o1 h3 hba (by rw [t1]; unfold g_out; omega) (by rw [t1]; omega) (by omega) (by omega) (fun p _ => by
    rw [← nI_0, fa_or, Nat.or_zero])
  rw [mk2_id] at h6
  exact ⟨R, R2, h1, h4, h2, h5, h6⟩
