/-! dialFor, stale, coolAfter, wouldTake -/
def awD (v : Nat → Nat) (w k d : Nat) : Nat := aw (fw (hdn v k) (gp d w)) (v 0)
/-- the nearest of the dials 1 to n + 1, the lowest of several -/
def nrD (v : Nat → Nat) (w k : Nat) : Nat → Nat
  | 0 => 1
  | n + 1 => if awD v w k (n + 2) < awD v w k (nrD v w k n) then n + 2 else nrD v w k n
theorem nrD_le (v : Nat → Nat) (w k : Nat) : ∀ n, 1 ≤ nrD v w k n ∧ nrD v w k n ≤ n + 1
  | 0 => ⟨Nat.le_refl 1, Nat.le_refl 1⟩
  | n + 1 => by
    have := nrD_le v w k n
    rw [nrD]
    split <;> omega
theorem awD_le {v : Nat → Nat} (hv : stK v) (w k d : Nat) : awD v w k d ≤ 30000 := aw_le (fw_le (hdn_le hv _)) hv.2.1
theorem p_awD0 {v : Nat → Nat} {st : Nat → Int32} {w k d : Nat} (hs : stR v st) (hv : stK v) (hw : w ≤ 300) (hk : k < 2) (hd : d ≤ 60) : f_X1_awayAtDial_0 (nI d) (nI k) (nI w) st = some (nI (awD v w k d)) := by
  have e0 : st (0 : Int32).toNatClampNeg = nI (v 0) := hs 0 (by decide)
  have h1 := hdn_le hv k
  have h2 := gp_le (d := d) (w := w) hd
  have h3 := fw_le (h := hdn v k) (g := gp d w) h1
  have hv0 := hv.2.1
  rw [f_X1_awayAtDial_0, p_hard hs (by omega), Option.bind_some, p_gapAt (by omega) (by omega), Option.bind_some, p_flow h1 (by omega), Option.bind_some, e0, p_absI (by omega) (by omega), lt_v]
  rfl
theorem p_awD1 {v : Nat → Nat} {st : Nat → Int32} {w k d : Nat} (hs : stR v st) (hv : stK v) (hw : w ≤ 300) (hk : k < 2) (hd : d ≤ 60) : f_X1_awayAtDial_1 (nI d) (nI k) (nI w) st = some (nI (awD v w k d)) := p_awD0 hs hv hw hk hd
theorem p_nrD0_L {v : Nat → Nat} {st : Nat → Int32} {w k : Nat} (hs : stR v st) (hv : stK v) (hw : w ≤ 300) (hk : k < 2) : ∀ (m n fuel : Nat), n + m = 59 → m < fuel → f_X1_nearestDial_0_L5 (nI w) st (nI k) fuel (nI (nrD v w k n)) (nI (n + 2)) = some (nI (nrD v w k 59)) := by
  intro m
  induction m with
  | zero =>
    intro n fuel hn hf
    obtain ⟨fu, rfl⟩ : ∃ fu, fuel = fu + 1 := ⟨fuel - 1, by omega⟩
    rw [f_X1_nearestDial_0_L5, if_pos (show (60 : Int32) < nI (n + 2) from nI_lt (a := 60) (by omega) (by omega)), show n = 59 by omega]
  | succ m ih =>
    intro n fuel hn hf
    obtain ⟨fu, rfl⟩ : ∃ fu, fuel = fu + 1 := ⟨fuel - 1, by omega⟩
    have hb := nrD_le v w k n
    have a1 := awD_le hv w k (n + 2)
    have a2 := awD_le hv w k (nrD v w k n)
    have ih' := ih (n + 1) fu (by omega) (by omega)
    rw [nrD] at ih'
    rw [f_X1_nearestDial_0_L5, if_neg (show ¬ (60 : Int32) < nI (n + 2) from nI_nlt (a := 60) (by omega) (by omega)), p_awD0 hs hv hw hk (by omega), Option.bind_some, p_awD0 hs hv hw hk (by omega), Option.bind_some]
    by_cases c : awD v w k (n + 2) < awD v w k (nrD v w k n)
    · rw [if_neg (nI_ge c (by omega)), f_X1_nearestDial_0_J33, lt_v, nI_1]
      rw [if_pos c] at ih'
      exact ih'
    · rw [if_pos (nI_le (by omega) (by omega)), f_X1_nearestDial_0_J33, lt_v, nI_1]
      rw [if_neg c] at ih'
      exact ih'
theorem p_nrD0 {v : Nat → Nat} {st : Nat → Int32} {w k : Nat} (hs : stR v st) (hv : stK v) (hw : w ≤ 300) (hk : k < 2) : f_X1_nearestDial_0 (nI k) (nI w) st = some (nI (nrD v w k 59)) := by
  rw [f_X1_nearestDial_0]
  exact p_nrD0_L hs hv hw hk 59 0 FU (by omega) (by show 59 < 20000; omega)
theorem p_nrD1_L {v : Nat → Nat} {st : Nat → Int32} {w k : Nat} (hs : stR v st) (hv : stK v) (hw : w ≤ 300) (hk : k < 2) : ∀ (m n fuel : Nat), n + m = 59 → m < fuel → f_X1_nearestDial_1_L5 (nI w) st (nI k) fuel (nI (nrD v w k n)) (nI (n + 2)) = some (nI (nrD v w k 59)) := by
  intro m
  induction m with
  | zero =>
    intro n fuel hn hf
    obtain ⟨fu, rfl⟩ : ∃ fu, fuel = fu + 1 := ⟨fuel - 1, by omega⟩
    rw [f_X1_nearestDial_1_L5, if_pos (show (60 : Int32) < nI (n + 2) from nI_lt (a := 60) (by omega) (by omega)), show n = 59 by omega]
  | succ m ih =>
    intro n fuel hn hf
    obtain ⟨fu, rfl⟩ : ∃ fu, fuel = fu + 1 := ⟨fuel - 1, by omega⟩
    have hb := nrD_le v w k n
    have a1 := awD_le hv w k (n + 2)
    have a2 := awD_le hv w k (nrD v w k n)
    have ih' := ih (n + 1) fu (by omega) (by omega)
    rw [nrD] at ih'
    rw [f_X1_nearestDial_1_L5, if_neg (show ¬ (60 : Int32) < nI (n + 2) from nI_nlt (a := 60) (by omega) (by omega)), p_awD1 hs hv hw hk (by omega), Option.bind_some, p_awD1 hs hv hw hk (by omega), Option.bind_some]
    by_cases c : awD v w k (n + 2) < awD v w k (nrD v w k n)
    · rw [if_neg (nI_ge c (by omega)), f_X1_nearestDial_1_J33, lt_v, nI_1]
      rw [if_pos c] at ih'
      exact ih'
    · rw [if_pos (nI_le (by omega) (by omega)), f_X1_nearestDial_1_J33, lt_v, nI_1]
      rw [if_neg c] at ih'
      exact ih'
theorem p_nrD1 {v : Nat → Nat} {st : Nat → Int32} {w k : Nat} (hs : stR v st) (hv : stK v) (hw : w ≤ 300) (hk : k < 2) : f_X1_nearestDial_1 (nI k) (nI w) st = some (nI (nrD v w k 59)) := by
  rw [f_X1_nearestDial_1]
  exact p_nrD1_L hs hv hw hk 59 0 FU (by omega) (by show 59 < 20000; omega)
theorem r_awD {v : Nat → Nat} {S : Nat → Int32} {b w k d : Nat} {β : Type} (f : Int32 → Option β) (hs : stM v S) (hv : stK v) (hw : w ≤ 300) (hk : k < 2) (hd : d ≤ 60) (hb : b < 2) (hS : S (13 + 4 * b + 1) = nI w) : gd (¬ (((10 : Int32) + nI k) < 0 ∨ 631 ≤ ((10 : Int32) + nI k).toNatClampNeg)) ((f_X8_ofBurr (nI b) (1 : Int32) S).bind fun q7 => (f_X8_gapBy (nI d) q7).bind fun q8 => gd (¬ q8 = 0) ((f_X8_away (((S ((10 : Int32) + nI k).toNatClampNeg) * (1000 : Int32)) / q8) S).bind fun q10 => f q10)) = f (nI (awD v w k d)) := by
  have h1 := hdn_le hv k
  have h2 := gp_le (d := d) (w := w) hd
  have h2' := gp_ge d w
  have h3 := fw_le (h := hdn v k) (g := gp d w) h1
  have hv0 := hv.2.1
  have ei : S (10 + k) = nI (hdn v k) := by
    rcases (show k = 0 ∨ k = 1 by omega) with rfl | rfl
    · exact hs 3 (by decide)
    · exact hs 4 (by decide)
  have hq : hdn v k * 1000 / gp d w = fw (hdn v k) (gp d w) := by unfold fw; rw [if_neg (by omega)]
  rw [fa_lit 10, nI_add, gd_t (nI_in (by omega) (by decide)), r_ofB1 hb, Option.bind_some, hS, r_gapBy (by omega) (by omega), Option.bind_some, gd_t (nI_ne0 (by omega) (by omega)), v_cl (by omega), ei, fa_lit 1000, pk_mul, pk_div (by omega) (by omega) (by omega), hq, r_away (hs 0 (by decide)) (by omega) (by omega), Option.bind_some]
  rfl
theorem r_nrD_L {v : Nat → Nat} {S : Nat → Int32} {b w k : Nat} (hs : stM v S) (hv : stK v) (hw : w ≤ 300) (hk : k < 2) (hb : b < 2) (hS : S (13 + 4 * b + 1) = nI w) : ∀ (m n fuel : Nat), n + m = 59 → m < fuel → f_X8_dialFor_L25 S (nI b) (nI k) fuel (nI (nrD v w k n)) (nI (awD v w k (nrD v w k n))) (nI (n + 2)) = some (nI (nrD v w k 59)) := by
  intro m
  induction m with
  | zero =>
    intro n fuel hn hf
    obtain ⟨fu, rfl⟩ : ∃ fu, fuel = fu + 1 := ⟨fuel - 1, by omega⟩
    rw [f_X8_dialFor_L25, if_pos (show (60 : Int32) < nI (n + 2) from nI_lt (a := 60) (by omega) (by omega)), show n = 59 by omega]
  | succ m ih =>
    intro n fuel hn hf
    obtain ⟨fu, rfl⟩ : ∃ fu, fuel = fu + 1 := ⟨fuel - 1, by omega⟩
    have hb2 := nrD_le v w k n
    have a1 := awD_le hv w k (n + 2)
    have a2 := awD_le hv w k (nrD v w k n)
    have ih' := ih (n + 1) fu (by omega) (by omega)
    rw [nrD] at ih'
    rw [f_X8_dialFor_L25, if_neg (show ¬ (60 : Int32) < nI (n + 2) from nI_nlt (a := 60) (by omega) (by omega)), r_awD _ hs hv hw hk (by omega) hb hS, if_neg (nI_pos (by omega))]
    by_cases c : awD v w k (n + 2) < awD v w k (nrD v w k n)
    · rw [if_neg (nI_ge c (by omega)), f_X8_dialFor_J75, f_X8_dialFor_J82, lt_v, nI_1]
      rw [if_pos c] at ih'
      exact ih'
    · rw [if_pos (nI_le (by omega) (by omega)), f_X8_dialFor_J82, lt_v, nI_1]
      rw [if_neg c] at ih'
      exact ih'
theorem q_dialFor {σ : Sp} {B nw : Nat} {S st : Nat → Int32} {d0 w0 g0 c0 d1 w1 g1 c1 : Int32} (h0 : buR (v_b0 σ) d0 w0 g0 c0) (h1 : buR (v_b1 σ) d1 w1 g1 c1) (hs : stR (v_st σ) st) (hm : MR σ S) (hk : KK σ B) (x1 x2 : Int32) : ∃ r, f_X7_dialFor x1 x2 nw w0 w1 st = some r ∧ f_X8_dialFor x1 x2 S = some r := by
  have k11 := hk.2.2.2.2.2.2.2.2.2.2.1
  have k12 := hk.2.2.2.2.2.2.2.2.2.2.2.1
  have k13 := hk.2.2.2.2.2.2.2.2.2.2.2.2.1
  have hsM := hm.2.2.2.2.2.2.2.1
  rw [f_X7_dialFor, f_X8_dialFor, r_isOne]
  by_cases c1 : x1 = 0 ∨ x1 = 1
  · obtain ⟨b, hb, rfl⟩ := v01 c1
    rw [is01_t hb, if_pos c1, Option.bind_some, Option.bind_some, if_neg n10, if_neg n10, r_isOne]
    by_cases c2 : x2 = 0 ∨ x2 = 1
    · obtain ⟨k, hkk, rfl⟩ := v01 c2
      rw [is01_t hkk, if_pos c2, Option.bind_some, Option.bind_some, if_neg n10, if_neg n10]
      have hx := bsel_K b k11 k12
      have hS := (bs_M hm hb).2.1
      have key : f_X8_dialFor_L25 S (nI b) (nI k) FU (1 : Int32) (-1 : Int32) (1 : Int32) = some (nI (nrD (v_st σ) (bsel (v_b0 σ) (v_b1 σ) b).2.1 k 59)) := by
        have hF : FU = 19999 + 1 := rfl
        have := r_nrD_L hsM k13 hx.2.2 hkk hb hS 59 0 19999 (by omega) (by omega)
        rw [hF, f_X8_dialFor_L25, if_neg (by decide), show (1 : Int32) = nI 1 from rfl]
        have e := r_awD (d := 1) (fun q10 => (if (-1 : Int32) < 0 then f_X8_dialFor_J75 (f_X8_dialFor_L25 S (nI b) (nI k) 19999) S (nI b) (nI k) (nI 1) q10 else (if (-1 : Int32) ≤ q10 then f_X8_dialFor_J82 (f_X8_dialFor_L25 S (nI b) (nI k) 19999) S (nI b) (nI k) (nI 1) (-1 : Int32) (nI 1) else f_X8_dialFor_J75 (f_X8_dialFor_L25 S (nI b) (nI k) 19999) S (nI b) (nI k) (nI 1) q10))) hsM k13 hx.2.2 hkk (by decide) hb hS
        refine Eq.trans e ?_
        rw [if_pos (by decide), f_X8_dialFor_J75, f_X8_dialFor_J82, lt_v, nI_1]
        exact this
      refine ⟨_, ?_, key⟩
      rcases (show b = 0 ∨ b = 1 by omega) with rfl | rfl
      · rw [if_pos nI_0, h0.2.1, p_nrD0 hs k13 k11.2.2 hkk]; rfl
      · rw [if_neg (show ¬ nI 1 = 0 by decide), h1.2.1, p_nrD1 hs k13 k12.2.2 hkk]; rfl
    · rw [is01_f c2, if_neg c2, Option.bind_some, Option.bind_some, if_pos rfl, if_pos rfl]
      exact ⟨_, rfl, rfl⟩
  · rw [is01_f c1, if_neg c1, Option.bind_some, Option.bind_some, if_pos rfl, if_pos rfl]
    exact ⟨_, rfl, rfl⟩
theorem r_stale_L {σ : Sp} {S : Nat → Int32} {b k0 : Nat} {x : Bu} {L : List (Nat × Nat)} (h : rwM 34 L S) (hok : okP L) (hlen : L.length ≤ 110) (hb : b < 2) (hk0 : k0 < 2) (hx : buM (13 + 4 * b) x S) (hx2 : buK x) (h22 : S 22 = nI k0) : ∀ (m i s u fuel : Nat) (Lr : List (Nat × Nat)), Lr.length = m → i + m = L.length → (∀ k : Nat, k < m → lk Lr k = lk L (i + k)) → m < fuel → f_X8_stale_L30 S (nI b) fuel (nI s) (nI u) (nI i) = some (nI (upTo (4 * gp x.1 x.2.1 + 2 * b + k0) Lr s u)) := by
  have hg := gp_le (d := x.1) (w := x.2.1) hx2.2.1
  intro m
  induction m with
  | zero =>
    intro i s u fuel Lr hL hi hk hf
    obtain ⟨fu, rfl⟩ : ∃ fu, fuel = fu + 1 := ⟨fuel - 1, by omega⟩
    have hL0 : Lr = [] := List.length_eq_zero_iff.mp hL
    subst hL0
    rw [f_X8_stale_L30, c34, h.1, if_pos (nI_le (by omega) (by omega))]
    rfl
  | succ m ih =>
    intro i s u fuel Lr hL hi hk hf
    obtain ⟨fu, rfl⟩ : ∃ fu, fuel = fu + 1 := ⟨fuel - 1, by omega⟩
    match Lr, hL with
    | p :: Lr, hL =>
      simp only [List.length_cons] at hL
      have h1 := hk 0 (by omega)
      rw [lk_0, Nat.add_zero] at h1
      have hp := hok (lk L i) (lk_m (by omega))
      rw [← h1] at hp
      have hk' : ∀ k : Nat, k < m → lk Lr k = lk L (i + 1 + k) := fun k q => by
        have := hk (k + 1) (by omega)
        rw [lk_s] at this
        rw [this, show i + (k + 1) = i + 1 + k by omega]
      have yes := ih (i + 1) (s + p.1) u fu Lr (by omega) (by omega) hk' (by omega)
      have no := ih (i + 1) (s + p.1) (s + p.1) fu Lr (by omega) (by omega) hk' (by omega)
      have hg2 := nI_in (c := 35 + i) (N := 631) (by omega) (by decide)
      have eS : S (35 + i) = nI (enc p) := (h.2 i (by omega)).trans (by rw [h1])
      have jno : f_X8_stale_J99 (f_X8_stale_L30 S (nI b) fu) S (nI b) (nI (s + p.1)) (nI i) = some (nI (upTo (4 * gp x.1 x.2.1 + 2 * b + k0) Lr (s + p.1) (s + p.1))) := by
        rw [f_X8_stale_J99, f_X8_stale_J104, lt_v, nI_1]
        exact no
      rw [f_X8_stale_L30, c34, h.1, if_neg (nI_ge (by omega) (by omega)), fa_lit 35, nI_add, gd_t hg2, v_cl (by omega), eS, lt_v, r_amountOf hp.2.1 hp.2.2, Option.bind_some, lt_v, nI_add, r_kindOf hp.2.1 hp.2.2, Option.bind_some, c22, h22, upTo]
      by_cases c1 : p.2 % 2 = k0
      · rw [if_pos (congrArg nI c1), r_burrIn hp.2.1 hp.2.2, Option.bind_some]
        by_cases c2 : p.2 / 2 % 2 = b
        · rw [if_pos (congrArg nI c2), r_gapOf hp.2.1 hp.2.2, Option.bind_some, r_gap hb hx hx2, Option.bind_some]
          by_cases c3 : p.2 / 4 = gp x.1 x.2.1
          · rw [if_pos (congrArg nI c3), if_pos (show p.2 = 4 * gp x.1 x.2.1 + 2 * b + k0 by omega), f_X8_stale_J104, lt_v, nI_1]
            exact yes
          · rw [if_neg (fun z => c3 ((nI_eq (by omega) (by omega)).mp z)), if_neg (show ¬ p.2 = 4 * gp x.1 x.2.1 + 2 * b + k0 by omega)]
            exact jno
        · rw [if_neg (fun z => c2 ((nI_eq (by omega) (by omega)).mp z)), if_neg (show ¬ p.2 = 4 * gp x.1 x.2.1 + 2 * b + k0 by omega)]
          exact jno
      · rw [if_neg (fun z => c1 ((nI_eq (by omega) (by omega)).mp z)), if_neg (show ¬ p.2 = 4 * gp x.1 x.2.1 + 2 * b + k0 by omega)]
        exact jno
theorem q_stale {σ : Sp} {B nw : Nat} {S pA pM qA qM : Nat → Int32} {pn pt qn qt d0 w0 g0 c0 d1 w1 g1 c1 : Int32} (h0 : buR (v_b0 σ) d0 w0 g0 c0) (h1 : buR (v_b1 σ) d1 w1 g1 c1) (hp : rowR (v_lo σ) pA pM pn pt) (hq : rowR (v_ch σ) qA qM qn qt) (hm : MR σ S) (hk : KK σ B) (x1 : Int32) : ∃ r, f_X7_stale x1 nw pM pn d0 w0 d1 w1 qA qM qn = some r ∧ f_X8_stale x1 S = some r := by
  have hbs := fun (b : Nat) (hb : b < 2) => bs_M hm hb
  obtain ⟨m1, m2, m3, m4, m5, m6, m7, m8, m9, m10, m11, m12, m13, m14⟩ := hm
  obtain ⟨k1, k2, k3, k4, k5, k6, k7, k8, k9, k10, k11, k12, k13, k14⟩ := hk
  have l1 := len_tot k5
  rw [f_X7_stale, f_X8_stale, r_isOne]
  by_cases c1 : x1 = 0 ∨ x1 = 1
  · obtain ⟨b, hb, rfl⟩ := v01 c1
    rw [is01_t hb, if_pos c1, Option.bind_some, Option.bind_some, if_neg n10, if_neg n10, c21, m1.1, f_X1_staleFor, f_X3_isEmpty]
    by_cases c2 : (v_lo σ).length = 0
    · rw [if_neg (show ¬ (1 : Int32) ≤ pn by rw [hp.1]; exact nI_ge (b := 1) (by omega) (by decide)), Option.bind_some, if_neg n10, if_pos (by rw [c2]; exact nI_0)]
      exact ⟨_, rfl, rfl⟩
    · have hk0 := k2 _ (lk_m (L := v_lo σ) (k := 0) (by omega))
      have e22 : S 22 = nI (lk (v_lo σ) 0).2 := (m1.2 0 (by omega)).1
      have em : f_X5_markAt 6 (0 : Int32) pM pn = some (nI (lk (v_lo σ) 0).2) := p_markAt (N := 6) (k := 0) hp k4 (by decide) (by omega)
      have hx := bsel_K b k11 k12
      have hg := gp_le (d := (bsel (v_b0 σ) (v_b1 σ) b).1) (w := (bsel (v_b0 σ) (v_b1 σ) b).2.1) hx.2.1
      have key := r_stale_L (σ := σ) m4 (okP_of k5 (by omega)) (by omega) hb hk0 (hbs b hb) hx e22 (v_ch σ).length 0 0 0 FU (v_ch σ) rfl (by omega) (fun k _ => by rw [Nat.zero_add]) (by show _ < 20000; omega)
      have key' : f_X8_stale_L30 S (nI b) FU 0 0 0 = _ := key
      rw [if_pos (show (1 : Int32) ≤ pn by rw [hp.1]; exact nI_le (a := 1) (by omega) (by omega)), Option.bind_some, if_pos rfl, if_neg (nI_ne0 (by omega) (by omega)), f_X3_firstKind, em, Option.bind_some, Option.bind_some, key']
      refine ⟨_, ?_, rfl⟩
      rcases (show b = 0 ∨ b = 1 by omega) with rfl | rfl
      · have em2 := p_mark (k := (lk (v_lo σ) 0).2) (b := 0) (g := gp (v_b0 σ).1 (v_b0 σ).2.1) hk0 (by decide) (Nat.lt_of_le_of_lt (gp_le k11.2.1) (by decide))
        have hu := p_upTo (N := 106) (m := 4 * gp (v_b0 σ).1 (v_b0 σ).2.1 + 2 * 0 + (lk (v_lo σ) 0).2) (L := v_ch σ) (by decide) (by have := gp_le (d := (v_b0 σ).1) (w := (v_b0 σ).2.1) k11.2.1; omega) (by omega) k5 hq
        rw [if_pos nI_0, h0.1, h0.2.1, p_gap (by have := k11.2.1; omega) (by have := k11.2.2; omega), Option.bind_some, em2, Option.bind_some, hu]
        rfl
      · have em2 := p_mark (k := (lk (v_lo σ) 0).2) (b := 1) (g := gp (v_b1 σ).1 (v_b1 σ).2.1) hk0 (by decide) (Nat.lt_of_le_of_lt (gp_le k12.2.1) (by decide))
        have hu := p_upTo (N := 106) (m := 4 * gp (v_b1 σ).1 (v_b1 σ).2.1 + 2 * 1 + (lk (v_lo σ) 0).2) (L := v_ch σ) (by decide) (by have := gp_le (d := (v_b1 σ).1) (w := (v_b1 σ).2.1) k12.2.1; omega) (by omega) k5 hq
        rw [if_neg (show ¬ nI 1 = 0 by decide), h1.1, h1.2.1, p_gap (by have := k12.2.1; omega) (by have := k12.2.2; omega), Option.bind_some, em2, Option.bind_some, hu]
        rfl
  · rw [is01_f c1, if_neg c1, Option.bind_some, Option.bind_some, if_pos rfl, if_pos rfl]
    exact ⟨_, rfl, rfl⟩
/-! coolAfter -/
theorem ct_ind (t : Nat) : ∀ (n m w : Nat), w ≤ n → w ≤ m → ct n w t = ct m w t
  | 0, m, w, h1, h2 => by
    have : w = 0 := by omega
    subst this
    cases m with
    | zero => rfl
    | succ m => rw [ct, ct, if_neg (by omega)]
  | n + 1, m, w, h1, h2 => by
    cases m with
    | zero =>
      have : w = 0 := by omega
      subst this
      rw [ct, ct, if_neg (by omega)]
    | succ m =>
      rw [ct, ct]
      by_cases c : t < w
      · have h3 := fl_pos (w := w) (by omega)
        rw [if_pos c, if_pos c, ct_ind t n m (w - fl w) (by omega) (by omega)]
      · rw [if_neg c, if_neg c]
theorem ct_step {t w : Nat} (h : w ≤ 300) (c : t < w) : ct 300 w t = 1 + ct 300 (w - fl w) t := by
  have h3 := fl_pos (w := w) (by omega)
  rw [show ct 300 w t = 1 + ct 299 (w - fl w) t by rw [show (300 : Nat) = 299 + 1 from rfl, ct, if_pos c], ct_ind t 299 300 (w - fl w) (by omega) (by omega)]
theorem ct_le : ∀ (n w t : Nat), ct n w t ≤ n
  | 0, _, _ => Nat.le_refl 0
  | n + 1, w, t => by
    have := ct_le n (w - fl w) t
    rw [ct]
    split <;> omega
theorem ct_0 {t w : Nat} (c : ¬ t < w) : ct 300 w t = 0 := by rw [show (300 : Nat) = 299 + 1 from rfl, ct, if_neg c]
theorem r_cool_L {S : Nat → Int32} {s t : Nat} (h0 : S 0 = nI s) (hs : s < 2 ^ 29) (ht : t ≤ 300) : ∀ (M n w fuel : Nat), 10 * w + (9 - (s + n) % 10) = M → M < fuel → w ≤ 300 → n < 2 ^ 20 - 4 * M → M < 2 ^ 14 → f_X8_coolAfter_L31 S (nI t) fuel (nI n) (nI w) = some (nI (if ct 300 w t = 0 then n else n + 10 * ct 300 w t - (s + n) % 10)) := by
  intro M
  induction M using Nat.strongRecOn with
  | _ M ih =>
    intro n w fuel hM hf hw hn hM2
    obtain ⟨fu, rfl⟩ : ∃ fu, fuel = fu + 1 := ⟨fuel - 1, by omega⟩
    have c0 : (0 : Int32).toNatClampNeg = 0 := rfl
    by_cases c : t < w
    · have hp := fl_pos (w := w) (by omega)
      have hl := fl_le w
      have hct := ct_step hw c
      have hcl := ct_le 300 w t
      rw [f_X8_coolAfter_L31, if_neg (nI_ge c (by omega)), lt_v, nI_1, c0, h0, nI_add, fa_lit 10, pk_rem (by omega) (by decide) (by decide)]
      by_cases c2 : (s + (n + 1)) % 10 = 0
      · have ih' := ih (10 * (w - fl w) + (9 - (s + (n + 1)) % 10)) (by omega) (n + 1) (w - fl w) fu rfl (by omega) (by omega) (by omega) (by omega)
        rw [if_pos (by rw [c2]; exact nI_0), r_fall (by omega), Option.bind_some, f_X8_coolAfter_J65, lt_v, pk_sub hl, ih']
        refine so_inj (nI_inj ?_)
        rw [hct, if_neg (show ¬ 1 + ct 300 (w - fl w) t = 0 by omega)]
        split <;> omega
      · have ih' := ih (10 * w + (9 - (s + (n + 1)) % 10)) (by omega) (n + 1) w fu rfl (by omega) hw (by omega) (by omega)
        rw [if_neg (nI_ne0 (by omega) (by omega)), f_X8_coolAfter_J65, lt_v, show nI w - (0 : Int32) = nI w from pk_sub (b := 0) (Nat.zero_le _), ih']
        refine so_inj (nI_inj ?_)
        rw [if_neg (show ¬ ct 300 w t = 0 by omega), if_neg (show ¬ ct 300 w t = 0 by omega)]
        omega
    · rw [f_X8_coolAfter_L31, if_pos (nI_le (by omega) (by omega)), ct_0 c, if_pos rfl]
theorem q_coolAfter {σ : Sp} {B nw : Nat} {S : Nat → Int32} {d0 w0 g0 c0 d1 w1 g1 c1 se : Int32} (h0 : buR (v_b0 σ) d0 w0 g0 c0) (h1 : buR (v_b1 σ) d1 w1 g1 c1) (hse : se = nI (v_se σ)) (hm : MR σ S) (hk : KK σ B) (hB : B < 2 ^ 28) (x1 x2 : Int32) : ∃ r, f_X7_coolAfter x1 x2 nw w0 w1 se = some r ∧ f_X8_coolAfter x1 x2 S = some r := by
  have k11 := hk.2.2.2.2.2.2.2.2.2.2.1
  have k12 := hk.2.2.2.2.2.2.2.2.2.2.2.1
  have k14 := hk.2.2.2.2.2.2.2.2.2.2.2.2.2
  subst hse
  rw [f_X7_coolAfter, f_X8_coolAfter, r_isOne]
  by_cases c1 : x1 = 0 ∨ x1 = 1
  · obtain ⟨b, hb, rfl⟩ := v01 c1
    rw [is01_t hb, if_pos c1, Option.bind_some, Option.bind_some, if_neg n10, if_neg n10, r_in, Option.bind_some]
    by_cases c2 : x2 < 0 ∨ (300 : Int32) < x2
    · rw [rg_t c2, if_pos c2, if_pos rfl]
      exact ⟨_, rfl, rfl⟩
    · rw [rg_f c2, if_neg c2, if_neg n10]
      obtain ⟨t, ht, rfl⟩ := v_le (n := 300) (fun q => c2 (Or.inl q)) (fun q => c2 (Or.inr q))
      have hx := bsel_K b k11 k12
      have hct := ct_le 300 (bsel (v_b0 σ) (v_b1 σ) b).2.1 t
      have key := r_cool_L (t := t) hm.2.2.2.2.2.2.2.2.1 (by omega) ht _ 0 (bsel (v_b0 σ) (v_b1 σ) b).2.1 FU rfl (by have := hx.2.2; show _ < 20000; omega) hx.2.2 (by have := hx.2.2; omega) (by have := hx.2.2; omega)
      have key' : f_X8_coolAfter_L31 S (nI t) FU 0 (nI (bsel (v_b0 σ) (v_b1 σ) b).2.1) = _ := key
      have fin : ∀ n : Nat, n ≤ 300 → (if (1 : Int32) ≤ nI n then some ((nI n * (10 : Int32)) - (nI (v_se σ) - nI (v_se σ) / (10 : Int32) * (10 : Int32))) else some (0 : Int32)) = some (nI (if n = 0 then 0 else 0 + 10 * n - (v_se σ + 0) % 10)) := fun n hn => by
        by_cases c : n = 0
        · subst c; rfl
        · rw [if_pos (show (1 : Int32) ≤ nI n from nI_le (a := 1) (by omega) (by omega)), if_neg c, fa_lit 10, pk_rem (by omega) (by decide) (by decide), pk_mul, pk_sub (by omega)]
          exact so_inj (nI_inj (by omega))
      rw [r_ofB1 hb, Option.bind_some, (bs_M hm hb).2.1, key']
      refine ⟨_, ?_, rfl⟩
      rcases (show b = 0 ∨ b = 1 by omega) with rfl | rfl
      · rw [if_pos nI_0, f_X1_secondsToCool_0, h0.2.1, p_coolings (by omega) k11.2.2, Option.bind_some, fin _ (ct_le _ _ _)]
        rfl
      · rw [if_neg (show ¬ nI 1 = 0 by decide), f_X1_secondsToCool_1, h1.2.1, p_coolings (by omega) k12.2.2, Option.bind_some, fin _ (ct_le _ _ _)]
        rfl
  · rw [is01_f c1, if_neg c1, Option.bind_some, Option.bind_some, if_pos rfl, if_pos rfl]
    exact ⟨_, rfl, rfl⟩
/-! copies; wouldTake -/
theorem r_copies_L {A : Nat → Int32} : ∀ (m i fuel : Nat) (C : Nat → Int32), i + m = 631 → m < fuel → ∃ C', f_X8_copies_L2 A fuel (nI i) C = some C' ∧ (∀ k, i ≤ k → k < 631 → C' k = A k) ∧ ∀ k, k < i → C' k = C k := by
  intro m
  induction m with
  | zero =>
    intro i fuel C hi hf
    obtain ⟨fu, rfl⟩ : ∃ fu, fuel = fu + 1 := ⟨fuel - 1, by omega⟩
    rw [f_X8_copies_L2, if_pos (show (631 : Int32) ≤ nI i from nI_le (a := 631) (by omega) (by omega))]
    exact ⟨C, rfl, fun k h1 h2 => absurd h2 (by omega), fun k _ => rfl⟩
  | succ m ih =>
    intro i fuel C hi hf
    obtain ⟨fu, rfl⟩ : ∃ fu, fuel = fu + 1 := ⟨fuel - 1, by omega⟩
    obtain ⟨C', a1, a2, a3⟩ := ih (i + 1) fu (upd C i (A i)) (by omega) (by omega)
    have hg := nI_in (c := i) (N := 631) (by omega) (by decide)
    refine ⟨C', ?_, ?_, ?_⟩
    · rw [f_X8_copies_L2, if_neg (show ¬ (631 : Int32) ≤ nI i from nI_ge (b := 631) (by omega) (by decide)), gd_t hg, lt_v, gd_t hg, lt_v, lt_v, v_cl (by omega), nI_1, a1]
    · intro k h1 h2
      by_cases e : k = i
      · subst e
        rw [a3 _ (by omega), pk_us]
      · exact a2 k (by omega) h2
    · intro k hk
      rw [a3 k (by omega), pk_un (by omega)]
theorem r_copies (A C : Nat → Int32) : ∃ C', f_X8_copies A C = some C' ∧ ∀ k, k < 631 → C' k = A k := by
  obtain ⟨C', a1, a2, -⟩ := r_copies_L (A := A) 631 0 FU C (by omega) (by show 631 < 20000; omega)
  exact ⟨C', a1, fun k hk => a2 k (Nat.zero_le _) hk⟩
noncomputable def a_would (x1 x2 : Int32) (σ : Sp) : Int32 := if 0 ≤ a_grind x1 x2 (v_lo σ) (v_ch σ) (v_ba σ) (v_st σ 2) then a_shot (v_st σ) (v_ba (o_grind (nx x1) (nx x2) σ)) else a_grind x1 x2 (v_lo σ) (v_ch σ) (v_ba σ) (v_st σ 2)
theorem p_would {σ : Sp} {gN gS : Gr} {B nw sp : Nat} (hg : GR σ gN) (hk : KK σ B) (hB : B < 2 ^ 28) (x1 x2 : Int32) : ∃ R, f_X7_wouldTake x1 x2 nw sp gN gS = some R ∧ R.1 = a_would x1 x2 σ := by
  obtain ⟨g1, e1, h1⟩ := G_copyFrom hg hk gS
  obtain ⟨R2, e2, h2, h3⟩ := G_grindBy h1 hk hB x1 x2
  rw [f_X7_wouldTake, f_X7_spareLikeNow, e1, Option.bind_some, Option.bind_some, e2, Option.bind_some]
  unfold a_would
  by_cases c : 0 ≤ R2.1
  · have hK := K_grind hk (h2 ▸ c)
    rw [if_pos c, G_time (h3 c) hK, Option.bind_some, if_pos (h2 ▸ c)]
    exact ⟨_, rfl, rfl⟩
  · rw [if_neg c, if_neg (h2 ▸ c)]
    exact ⟨_, rfl, h2⟩
theorem r_would {σ : Sp} {S Tr : Nat → Int32} {B : Nat} (hm : MR σ S) (hk : KK σ B) (x1 x2 : Int32) : ∃ R, f_X8_wouldTake x1 x2 S Tr = some R ∧ R.1 = a_would x1 x2 σ ∧ MR σ R.2.1 := by
  rw [f_X8_wouldTake, r_couldGrind hm hk, Option.bind_some]
  unfold a_would
  by_cases c : 0 ≤ a_grind x1 x2 (v_lo σ) (v_ch σ) (v_ba σ) (v_st σ 2)
  · have hK := K_grind hk c
    rw [if_pos c, if_pos c]
    obtain ⟨g1, g2, g3, g4⟩ := agrind_ok c
    obtain ⟨e1, e2, e3, e4, e5⟩ := b2_no (by decide) g1
    have hgo : g_out (v_ch σ) (nx x2) (v_st σ 2) ≤ 500 := by
      have := hk.2.2.2.2.2.2.1
      unfold g_out; omega
    have hto : tot (v_ba (o_grind (nx x1) (nx x2) σ)) = tot (v_ba σ) + g_out (v_ch σ) (nx x2) (v_st σ 2) := by
      show tot (v_ba σ ++ (tk _ _).1) = _
      rw [tot_app, (tk_tot _ _).1, g_in_tot g2]
      unfold g_out; omega
    have hem : tot (v_ba σ) = 0 ↔ (v_ba σ).length = 0 := by
      have := len_tot hk.2.2.2.2.2.2.2.1
      constructor
      · intro q; omega
      · intro q; rw [List.length_eq_zero_iff.mp q]; rfl
    have h145 : S (145 : Int32).toNatClampNeg = nI (v_ba σ).length := hm.2.2.2.2.1.1
    have hlen : (v_ba σ).length ≤ 400 := Nat.le_trans (len_tot hk.2.2.2.2.2.2.2.1) hk.2.2.2.2.2.2.2.2.2.1
    have run : tot (v_ba (o_grind (nx x1) (nx x2) σ)) ≠ 0 → ∃ R, f_X8_wouldTake_J31 x1 x2 S Tr = some R ∧ R.1 = a_shot (v_st σ) (v_ba (o_grind (nx x1) (nx x2) σ)) ∧ MR σ R.2.1 := by
      intro hne
      obtain ⟨S1, a1, a2, a3, a4, a5, a6, a7, a8⟩ := r_grinds hm hk e1 e2 e3 g2 g3
      rw [← e4, ← e5] at a1
      obtain ⟨C1, b1, b2⟩ := r_copies S Tr
      obtain ⟨C2, b3, b4⟩ := r_copies C1 S1
      have hst : stM (v_st σ) S1 := hm.2.2.2.2.2.2.2.1.of (fun i i1 i2 => a8 i (by omega) (by omega) (by omega) (by omega))
      obtain ⟨j1, j2, j3, j4, j5, j6, j7, j8, j9, j10, j11, j12, j13, j14⟩ := hK
      have ht := r_time (L := v_ba (o_grind (nx x1) (nx x2) σ)) a4 hst j13 j8 j9 j10 (by omega)
      rw [f_X8_wouldTake_J31, b1, Option.bind_some, a1, Option.bind_some, ht, Option.bind_some, b3, Option.bind_some]
      refine ⟨_, rfl, ?_, hm.of hk (fun i hi => (b4 i (by omega)).trans (b2 i (by omega)))⟩
      unfold a_shot
      rw [if_neg hne]
    rw [g4]
    by_cases c2 : g_out (v_ch σ) (nx x2) (v_st σ 2) = 0
    · rw [if_pos (by rw [c2]; exact nI_0), h145]
      by_cases c3 : (v_ba σ).length = 0
      · rw [if_pos (by rw [c3]; exact nI_0)]
        refine ⟨_, rfl, ?_, hm⟩
        unfold a_shot
        rw [if_pos (by rw [hto, c2, hem.mpr c3])]
      · rw [if_neg (nI_ne0 (by omega) (by omega))]
        exact run (by rw [hto]; intro q; exact c3 (hem.mp (by omega)))
    · rw [if_neg (nI_ne0 (by omega) (by omega))]
      exact run (by rw [hto]; omega)
  · rw [if_neg c, if_neg c]
    exact ⟨_, rfl, rfl, hm⟩
