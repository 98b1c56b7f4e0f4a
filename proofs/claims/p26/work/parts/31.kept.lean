/-! what is kept by the changes -/
theorem mkK_nil : mkK [] := fun p hp => by cases hp
theorem okR_nil : okR [] := fun p hp => by cases hp
theorem mkK_app {L K : List (Nat × Nat)} (h : mkK L) (h2 : mkK K) : mkK (L ++ K) := fun q hq => by
  rcases List.mem_append.mp hq with hq | hq
  · exact h q hq
  · exact h2 q hq
theorem pour_ok {k a : Nat} {L : List (Nat × Nat)} (h : okR L) (hk : k < 2) (ha : 1 ≤ a) (hT : tot L + a ≤ 4000) : okR (pour k a L) := by
  unfold pour
  split
  · rename_i q
    rcases Classical.em (L = []) with rfl | hL
    · rw [ends_nil] at q; cases q
    · obtain ⟨K, x, rfl⟩ := snoc_of L hL
      rw [List.dropLast_concat, List.getLastD_concat]
      rw [tot_app] at hT
      simp only [tot] at hT
      refine okR_app (fun q hq => h q (List.mem_append_left _ hq)) (okR_cc ⟨?_, ?_, ?_⟩ okR_nil)
      · show 1 ≤ x.1 + a; omega
      · show x.1 + a ≤ 4000; omega
      · show k < 4096; omega
  · refine okR_app h (okR_cc ⟨ha, ?_, ?_⟩ okR_nil)
    · show a ≤ 4000; omega
    · show k < 4096; omega
theorem pour_mk {k a : Nat} {L : List (Nat × Nat)} (h : ∀ p ∈ L, p.2 < 2) (hk : k < 2) : ∀ p ∈ pour k a L, p.2 < 2 := by
  unfold pour
  split
  · intro p hp
    rcases List.mem_append.mp hp with hp | hp
    · exact h p (List.dropLast_subset L hp)
    · rw [List.mem_singleton] at hp
      subst hp
      exact hk
  · intro p hp
    rcases List.mem_append.mp hp with hp | hp
    · exact h p hp
    · rw [List.mem_singleton] at hp
      subst hp
      exact hk
theorem pour_len {k a : Nat} {L : List (Nat × Nat)} (h : L.length ≤ 6) (h2 : L.length < 6 ∨ ends k L = true) : (pour k a L).length ≤ 6 := by
  unfold pour
  split
  · rename_i q
    rcases Classical.em (L = []) with rfl | hL
    · rw [ends_nil] at q; cases q
    · obtain ⟨K, x, rfl⟩ := snoc_of L hL
      rw [List.dropLast_concat]
      rw [List.length_append] at h ⊢
      exact h
  · rename_i q
    rw [List.length_append]
    show L.length + 1 ≤ 6
    rcases h2 with z | z
    · omega
    · exact absurd z q
theorem KK_up {σ : Sp} {B C : Nat} (h : KK σ B) (hBC : B ≤ C) : KK σ C := by
  obtain ⟨k1, k2, k3, k4, k5, k6, k7, k8, k9, k10, k11, k12, k13, k14⟩ := h
  exact ⟨k1, k2, k3, k4, k5, k6, k7, k8, k9, k10, k11, k12, k13, Nat.le_trans k14 hBC⟩
theorem K_fill {σ : Sp} {B : Nat} {x1 x2 : Int32} (hk : KK σ B) (h : 0 ≤ a_fill x1 x2 (v_lo σ)) : KK (o_fill (nx x1) (nx x2) σ) B := by
  obtain ⟨k1, k2, k3, k4, k5, k6, k7, k8, k9, k10, k11, k12, k13, k14⟩ := hk
  obtain ⟨c1, c2, -⟩ := afill_ok h
  obtain ⟨e1, e2, e3, e4, e5⟩ := b2_no (by decide) c1
  have c3 : tot (v_lo σ) + nx x2 ≤ 4000 := Nat.not_lt.mp (fun q => c2 (Or.inl q))
  have c4 : (v_lo σ).length < 6 ∨ ends (nx x1) (v_lo σ) = true := by
    rcases Nat.lt_or_ge (v_lo σ).length 6 with q | q
    · exact Or.inl q
    · refine Or.inr ?_
      cases z : ends (nx x1) (v_lo σ) with
      | true => rfl
      | false => exact absurd (Or.inr ⟨by omega, z⟩) c2
  exact ⟨pour_ok k1 e1 e2 c3, pour_mk k2 e1, (by show tot (pour _ _ _) ≤ _; rw [pour_tot]; exact c3), pour_len k4 c4, k5, k6, k7, k8, k9, k10, k11, k12, k13, k14⟩
theorem tk_mk {L : List (Nat × Nat)} (l : Nat) (h : mkK L) : mkK (tk l L).1 ∧ mkK (tk l L).2 := tk_mem (P := fun m => 40 ≤ m ∧ m < 2404) l h
theorem bsel_K {b0 b1 : Bu} (b : Nat) (h0 : buK b0) (h1 : buK b1) : buK (bsel b0 b1 b) := by
  unfold bsel
  split
  · exact h0
  · exact h1
theorem buC_K {b : Bu} (n : Nat) (h : buK b) : buK (buC b n) := ⟨h.1, h.2.1, Nat.le_trans (cl_le n b.2.1) h.2.2⟩
theorem buG_K {b : Bu} (a : Nat) (h : buK b) : buK (buG b a) := ⟨h.1, h.2.1, buG_w b a h.2.2⟩
theorem buX_K {b : Bu} (t g : Nat) (h : buK b) : buK (buX b t g) := ⟨(by show 1 ≤ max 1 _; omega), (by show max 1 (min 60 _) ≤ 60; omega), h.2.2⟩
theorem buJ_K {b : Bu} (v : Nat → Nat) (t : Nat) (h : buK b) : buK (buJ v t b) := by
  unfold buJ
  split
  · exact h
  · split
    · exact buX_K _ _ h
    · exact h
theorem K_grind {σ : Sp} {B : Nat} {x1 x2 : Int32} (hk : KK σ B) (h : 0 ≤ a_grind x1 x2 (v_lo σ) (v_ch σ) (v_ba σ) (v_st σ 2)) : KK (o_grind (nx x1) (nx x2) σ) (B + 3000) := by
  obtain ⟨k1, k2, k3, k4, k5, k6, k7, k8, k9, k10, k11, k12, k13, k14⟩ := hk
  obtain ⟨c1, c2, c3, -⟩ := agrind_ok h
  obtain ⟨e1, e2, e3, e4, e5⟩ := b2_no (by decide) c1
  have hd := (bsel_K (nx x1) k11 k12).2.1
  have o1 := g_in_ok (w := (bsel (v_b0 σ) (v_b1 σ) (nx x1)).2.1) (a := nx x2) k1 k2 k5 hd e1
  have o2 := g_in_mk (w := (bsel (v_b0 σ) (v_b1 σ) (nx x1)).2.1) (a := nx x2) k2 k6 hd e1
  have t1 := g_in_tot (ch := v_ch σ) (d := (bsel (v_b0 σ) (v_b1 σ) (nx x1)).1) (w := (bsel (v_b0 σ) (v_b1 σ) (nx x1)).2.1) (b := nx x1) c2
  have t2 := tk_tot (g_in (v_lo σ) (v_ch σ) (bsel (v_b0 σ) (v_b1 σ) (nx x1)).1 (bsel (v_b0 σ) (v_b1 σ) (nx x1)).2.1 (nx x1) (nx x2)) (g_out (v_ch σ) (nx x2) (v_st σ 2))
  have t3 := tk_tot (v_lo σ) (nx x2)
  have hc := k13.2.2.2.1
  have hg : g_out (v_ch σ) (nx x2) (v_st σ 2) = tot (v_ch σ) + nx x2 - v_st σ 2 := rfl
  refine ⟨(tk_ok _ k1).2, (tk_mem (P := fun m => m < 2) _ k2).2, ?_, Nat.le_trans (tk_len _ _).2 k4, (tk_ok _ o1).2, (tk_mk _ o2).2, ?_, okR_app k8 (tk_ok _ o1).1, mkK_app k9 (tk_mk _ o2).1, ?_, ?_, ?_, k13, ?_⟩
  · show tot (tk _ _).2 ≤ 4000
    rw [t3.2]; omega
  · show tot (tk _ _).2 ≤ 100
    rw [t2.2, t1]; omega
  · show tot (_ ++ (tk _ _).1) ≤ 400
    rw [tot_app, t2.1, t1]; omega
  · show buK (bg0 _ _ _ _)
    unfold bg0
    split
    · exact buC_K _ (buG_K _ k11)
    · exact buC_K _ k11
  · show buK (bg1 _ _ _ _)
    unfold bg1
    split
    · exact buC_K _ k12
    · exact buC_K _ (buG_K _ k12)
  · show v_se σ + (nx x2 + 9) / 10 ≤ B + 3000
    omega
theorem K_dial {σ : Sp} {B : Nat} {x1 x2 : Int32} (hk : KK σ B) (h : 0 ≤ a_dial x1 x2 (v_b0 σ) (v_b1 σ)) : KK (o_dial (nx x1) (nx x2) σ) B := by
  obtain ⟨k1, k2, k3, k4, k5, k6, k7, k8, k9, k10, k11, k12, k13, k14⟩ := hk
  obtain ⟨e1, e2, e3, e4, e5⟩ := b2_no (by decide) (adial_ok h).1
  refine ⟨k1, k2, k3, k4, k5, k6, k7, k8, k9, k10, ?_, ?_, k13, k14⟩
  · show buK (if nx x1 = 0 then (nx x2, (v_b0 σ).2) else v_b0 σ)
    split
    · exact ⟨e2, e3, k11.2.2⟩
    · exact k11
  · show buK (if nx x1 = 0 then v_b1 σ else (nx x2, (v_b1 σ).2))
    split
    · exact k12
    · exact ⟨e2, e3, k12.2.2⟩
theorem K_rest {σ : Sp} {B : Nat} {x1 : Int32} (hk : KK σ B) (h : 0 ≤ a_rest x1 (v_b0 σ).2.1 (v_b1 σ).2.1 (v_se σ)) : KK (o_rest (nx x1) σ) (B + 3000) := by
  obtain ⟨k1, k2, k3, k4, k5, k6, k7, k8, k9, k10, k11, k12, k13, k14⟩ := hk
  obtain ⟨e1, e2, e3, -⟩ := arest_ok h
  exact ⟨k1, k2, k3, k4, k5, k6, k7, k8, k9, k10, buC_K _ k11, buC_K _ k12, k13, (by show v_se σ + nx x1 ≤ B + 3000; omega)⟩
theorem K_shot {σ : Sp} {B : Nat} (hk : KK σ B) : KK (o_shot σ) (B + 3000) := by
  obtain ⟨k1, k2, k3, k4, k5, k6, k7, k8, k9, k10, k11, k12, k13, k14⟩ := hk
  have ht := timeS_le k13 (v_ba σ)
  refine ⟨k1, k2, k3, k4, k5, k6, k7, okR_nil, mkK_nil, Nat.zero_le _, ?_, ?_, k13, ?_⟩
  · show buK (bs0 _ _ _ _ _)
    unfold bs0
    split
    · exact buC_K _ (buJ_K _ _ k11)
    · exact buC_K _ k11
  · show buK (bs1 _ _ _ _ _)
    unfold bs1
    split
    · exact buC_K _ k12
    · exact buC_K _ (buJ_K _ _ k12)
  · show v_se σ + timeS (v_st σ) (v_ba σ) / 10 ≤ B + 3000
    omega
theorem K_purge {σ : Sp} {B : Nat} (hk : KK σ B) : KK (o_purge σ) B := by
  obtain ⟨k1, k2, k3, k4, k5, k6, k7, k8, k9, k10, k11, k12, k13, k14⟩ := hk
  exact ⟨k1, k2, k3, k4, okR_nil, mkK_nil, Nat.zero_le _, k8, k9, k10, k11, k12, k13, k14⟩
theorem K_corr {σ : Sp} {B : Nat} (b : Nat) (hk : KK σ B) : KK (o_corr b σ) B := by
  obtain ⟨k1, k2, k3, k4, k5, k6, k7, k8, k9, k10, k11, k12, k13, k14⟩ := hk
  refine ⟨k1, k2, k3, k4, k5, k6, k7, k8, k9, k10, ?_, ?_, k13, k14⟩
  · show buK (if b = 0 then _ else _)
    split
    · exact buX_K _ _ k11
    · exact k11
  · show buK (if b = 0 then _ else _)
    split
    · exact k12
    · exact buX_K _ _ k12
theorem K_set {σ : Sp} {B : Nat} {x1 x2 : Int32} (hk : KK σ B) (h : 0 ≤ a_set x1 x2 (v_st σ)) : KK (o_set (nx x1) (nx x2) σ) B := by
  obtain ⟨k1, k2, k3, k4, k5, k6, k7, k8, k9, k10, k11, k12, k13, k14⟩ := hk
  obtain ⟨e1, -, e3, e4, -⟩ := aset_ok h
  refine ⟨k1, k2, k3, k4, k5, k6, k7, k8, k9, k10, k11, k12, ?_, k14⟩
  show stK (updN (v_st σ) (nx x1) (nx x2))
  obtain ⟨s1, s2, s3, s4, s5, s6, s7, s8, s9⟩ := k13
  generalize nx x2 = a at e3 e4
  generalize nx x1 = i at e1 e3 e4
  unfold stK updN
  rcases six e1 with rfl | rfl | rfl | rfl | rfl | rfl <;> (unfold lsN at e3; unfold msN at e4; simp at e3 e4 ⊢; omega)
