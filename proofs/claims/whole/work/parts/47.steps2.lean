/-! fault and play -/
section ST2
variable {B nw sp yl ys yt yo : Nat} {gN gS gl gs gt go : Gr} {yn : Int32} {sg : Nat → Int32} {oL : Int32} {S P Tx : Nat → Int32} {pasts runs typed : Int32}
theorem p_all {tx : List Nat} {σ : Sp} {g : Gr} (h : TX tx sg oL) (hB : B + 200000 < 2 ^ 28) (hg : GR σ g) (hk : KK σ B) (oA oC oF oS oD oP oR oU : Int32) : ∃ R, f_X4_doAllOn sg oL oA oC oF oS oD oP oR oU g = some R ∧ (((pl tx tx.length 0 0 σ).1 = none ∧ R.2.2.2.2.2.2.1 = 0 ∧ R.2.2.2.2.1 = nI (pl tx tx.length 0 0 σ).2.1 ∧ GR (pl tx tx.length 0 0 σ).2.2 R.2.2.2.2.2.2.2.2) ∨ ∃ f, (pl tx tx.length 0 0 σ).1 = some f ∧ (f.2.1 = 1 ∨ f.2.1 = 2) ∧ R.2.2.2.2.2.2.1 = f.2.1 ∧ R.2.2.2.2.2.1 = nI f.1 ∧ R.2.2.2.2.2.2.2.1 = f.2.2) := by
  have hlen := h.2.1
  rw [f_X4_doAllOn]
  exact p_pl h hB tx.length 0 0 FU σ g oC oF oS oP oU (by omega) (by omega) (by omega) (by show _ < 20000; omega) hg hk
theorem r_all {tx : List Nat} {σ : Sp} {hs : List Sp} (h : TX tx Tx typed) (hB : B + 200000 < 2 ^ 28) (hP : PR hs P pasts) (hK : KH hs B) (hm : MR σ S) (hk : KK σ B) (told : Nat → Int32) (rr spot frm reas caus ords ordr : Int32) : ∃ R, f_X8_plays S P Tx told pasts rr typed spot frm reas caus ords ordr = some R ∧ R.2.2.1 = P ∧ R.2.2.2.2.1 = pasts ∧ R.2.2.2.2.2.1 = 0 ∧ (((pl tx tx.length 0 0 σ).1 = none ∧ R.1 = 1 ∧ R.2.2.2.2.2.2.2.2.2.2.1 = nI (pl tx tx.length 0 0 σ).2.1 ∧ MR (pl tx tx.length 0 0 σ).2.2 R.2.1) ∨ ∃ f, (pl tx tx.length 0 0 σ).1 = some f ∧ R.1 = 0 ∧ R.2.2.2.2.2.2.2.2.1 = f.2.1 ∧ R.2.2.2.2.2.2.2.1 = nI f.1 ∧ R.2.2.2.2.2.2.2.2.2.1 = f.2.2) := by
  have hlen := h.2.1
  rw [f_X8_plays]
  exact r_pl h hB hP hK tx.length 0 0 FU σ S told 0 reas caus ordr (by omega) (by omega) (by omega) (by show _ < 20000; omega) hm hk
theorem st_fault (h : SY B gN gl gs gt go yn sg oL S P Tx pasts runs typed) (hB : B + 200000 < 2 ^ 28) (x1 : Int32) (Hd told : Nat → Int32) (oA oC oF oS oD oP oR oU spot frm reas caus ords ordr : Int32) : ∃ R R', f_X7_fault x1 nw sp sg oL oA oC oF oS oD oP oR oU gN gS = some R ∧ f_X8_fault x1 S P Hd Tx told pasts runs typed spot frm reas caus ords ordr = some R' ∧ R.1 = R'.1 ∧ SY B gN gl gs gt go yn sg oL R'.2.1 R'.2.2.1 Tx R'.2.2.2.2.2.1 R'.2.2.2.2.2.2.1 typed := by
  obtain ⟨σ, hs, tx, hg, hk, hK, rfl, hG, h1, h2, hm, hP, rfl⟩ := h
  rw [f_X7_fault, f_X8_fault, r_in, Option.bind_some]
  by_cases c : x1 < 0 ∨ (2 : Int32) < x1
  · rw [rg_t c, if_pos c, if_pos rfl]
    exact ⟨_, _, rfl, rfl, rfl, σ, hs, tx, hg, hk, hK, rfl, hG, h1, h2, hm, hP, rfl⟩
  · rw [rg_f c, if_neg c, if_neg n10]
    obtain ⟨g1, e1, hg1⟩ := G_copyFrom hg hk gS
    obtain ⟨R1, e2, a1⟩ := p_all h1 hB hg1 hk oA oC oF oS oD oP oR oU
    obtain ⟨C1, b1, b2⟩ := r_copies S Hd
    obtain ⟨R2, e3, p1, p2, p3, a2⟩ := r_all h2 hB hP hK hm hk told 0 spot frm reas caus ords ordr
    obtain ⟨C2, b3, b4⟩ := r_copies C1 R2.2.1
    have hM : MR σ C2 := hm.of hk (fun i hi => (b4 i (by omega)).trans (b2 i (by omega)))
    rw [f_X7_spareLikeNow, e1, Option.bind_some, Option.bind_some, e2, Option.bind_some, b1, Option.bind_some, e3, Option.bind_some, b3, Option.bind_some, f_X4_tellFault, f_X4_hasFault]
    rcases a1 with ⟨q, s1, s2, s3⟩ | ⟨f, q, s1, s2, s3, s4⟩
    · rcases a2 with ⟨q', t1, t2, t3⟩ | ⟨f', q', t1, t2, t3, t4⟩
      · rw [s1, if_pos rfl, Option.bind_some, if_pos rfl, Option.bind_some, t1, if_neg n10]
        refine ⟨_, _, rfl, rfl, rfl, σ, hs, tx, hg, hk, hK, rfl, hG, h1, h2, hM, ?_, p3⟩
        show PR hs R2.2.2.1 R2.2.2.2.2.1
        rw [p1, p2]; exact hP
      · rw [q] at q'; cases q'
    · rcases a2 with ⟨q', t1, t2, t3⟩ | ⟨f', q', t1, t2, t3, t4⟩
      · rw [q] at q'; cases q'
      · rw [q] at q'
        cases q'
        have n0 : ¬ R1.2.2.2.2.2.2.1 = 0 := by
          rw [s2]
          rcases s1 with z | z <;> (rw [z]; decide)
        rw [if_neg n0, Option.bind_some, if_neg n10, t1, if_pos rfl]
        have hPP : PR hs R2.2.2.1 R2.2.2.2.2.1 := by rw [p1, p2]; exact hP
        by_cases x0 : x1 = 0
        · rw [if_pos x0, if_pos x0, Option.bind_some]
          exact ⟨_, _, rfl, rfl, s3.trans t3.symm, σ, hs, tx, hg, hk, hK, rfl, hG, h1, h2, hM, hPP, p3⟩
        · rw [if_neg x0, if_neg x0]
          by_cases x1' : x1 = 1
          · rw [if_pos x1', if_pos x1', Option.bind_some]
            exact ⟨_, _, rfl, rfl, s2.trans t2.symm, σ, hs, tx, hg, hk, hK, rfl, hG, h1, h2, hM, hPP, p3⟩
          · rw [if_neg x1', if_neg x1', Option.bind_some]
            exact ⟨_, _, rfl, rfl, s4.trans t4.symm, σ, hs, tx, hg, hk, hK, rfl, hG, h1, h2, hM, hPP, p3⟩
theorem st_play (h : SY B gN gl gs gt go yn sg oL S P Tx pasts runs typed) (hB : B + 400000 < 2 ^ 28) (Hd told : Nat → Int32) (oA oC oF oS oD oP oR oU spot frm reas caus ords ordr : Int32) : ∃ R R', f_X7_play nw sp yl ys yt yo yn sg oL oA oC oF oS oD oP oR oU gN gS = some R ∧ f_X8_play S P Hd Tx told pasts runs typed spot frm reas caus ords ordr = some R' ∧ R.1 = R'.1 ∧ CHG B nw sp yl ys yt yo gN gl gs gt go yn sg oL Tx R'.2.2.2.2.2.2.1 typed R.2.1 R.2.2.1 R.2.2.2.1 R.2.2.2.2.1 R.2.2.2.2.2.1 R.2.2.2.2.2.2.1 R.2.2.2.2.2.2.2.1 R.2.2.2.2.2.2.2.2.2.2.2.2.2.2.2.2 R'.2.1 R'.2.2.1 R'.2.2.2.2.2.1 := by
  obtain ⟨σ, hs, tx, hg, hk, hK, rfl, hG, h1, h2, hm, hP, rfl⟩ := h
  have hlen := h1.2.1
  obtain ⟨g1, e1, hg1⟩ := G_copyFrom hg hk gS
  obtain ⟨R1, e2, a1⟩ := p_all h1 (by omega) hg1 hk oA oC oF oS oD oP oR oU
  obtain ⟨C1, b1, b2⟩ := r_copies S Hd
  obtain ⟨R2, e3, p1, p2, p3, a2⟩ := r_all h2 (by omega) hP hK hm hk told 0 spot frm reas caus ords ordr
  obtain ⟨C2, b3, b4⟩ := r_copies C1 R2.2.1
  have hM : MR σ C2 := hm.of hk (fun i hi => (b4 i (by omega)).trans (b2 i (by omega)))
  rw [f_X7_play, f_X8_play, f_X7_spareLikeNow, e1, Option.bind_some, Option.bind_some, e2, Option.bind_some, b1, Option.bind_some, e3, Option.bind_some, b3, Option.bind_some, f_X4_hasFault]
  rcases a1 with ⟨q, s1, s2, s3⟩ | ⟨f, q, s1, s2, s3, s4⟩
  · rcases a2 with ⟨q', t1, t2, t3⟩ | ⟨f', q', t1, t2, t3, t4⟩
    · obtain ⟨P', pasts', c1, c2⟩ := r_changes (S := C2) hP hM hk hK
      have hK2 : KH ((σ :: hs).take 4) B := hK.push hk (Nat.le_refl _)
      obtain ⟨R3, e4, u1, u2, u3, a3⟩ := r_all (S := C2) h2 (by omega) c2 hK2 hM hk R2.2.2.2.1 R2.2.2.2.2.2.1 R2.2.2.2.2.2.2.1 R2.2.2.2.2.2.2.2.1 R2.2.2.2.2.2.2.2.2.1 R2.2.2.2.2.2.2.2.2.2.1 R2.2.2.2.2.2.2.2.2.2.2.1 R2.2.2.2.2.2.2.2.2.2.2.2
      obtain ⟨kk, kl⟩ := pl_K (B := B) tx tx.length 0 0 σ (by omega) (by omega) hk q
      rcases a3 with ⟨-, w1, w2, w3⟩ | ⟨f', q', -⟩
      · have hl : ((σ :: hs).take 4).length = min 4 (hs.length + 1) := by rw [List.length_take]; rfl
        rw [s1, if_pos rfl, Option.bind_some, if_pos rfl, f_X7_play_J34, p_keep hP.2.1, Option.bind_some, t1, if_neg n10, p1, p2, p3, c1, Option.bind_some]
        rw [p3] at e4
        rw [e4, Option.bind_some, w1, if_neg n10, s2, if_pos (nI_pos' (by omega))]
        refine ⟨_, _, rfl, rfl, w2.symm, Or.inr ⟨rfl, rfl, rfl, rfl, rfl, rfl, (pl tx tx.length 0 0 σ).2.2, (σ :: hs).take 4, tx, s3, KK_up kk (by omega), hK.push hk (by omega), by rw [hl], hG.push hg, h1, h2, w3, ?_, u3⟩⟩
        show PR _ R3.2.2.1 R3.2.2.2.2.1
        rw [u1, u2]
        exact c2
      · rw [q] at q'; cases q'
    · rw [q] at q'; cases q'
  · rcases a2 with ⟨q', t1, t2, t3⟩ | ⟨f', q', t1, t2, t3, t4⟩
    · rw [q] at q'; cases q'
    · have n0 : ¬ R1.2.2.2.2.2.2.1 = 0 := by
        rw [s2]
        rcases s1 with z | z <;> (rw [z]; decide)
      rw [if_neg n0, Option.bind_some, if_neg n10, f_X7_play_J34, p_keep hP.2.1, Option.bind_some, t1, if_pos rfl, if_neg (by decide)]
      refine ⟨_, _, rfl, rfl, rfl, Or.inl ⟨rfl, rfl, rfl, rfl, rfl, rfl, σ, hs, tx, hg, KK_up hk (by omega), fun τ hτ => KK_up (hK τ hτ) (by omega), rfl, hG, h1, h2, hM, ?_, p3⟩⟩
      show PR hs R2.2.2.1 R2.2.2.2.2.1
      rw [p1, p2]
      exact hP
/-! the queries, with the state's parts named -/
theorem st_burrOf (h : SY B gN gl gs gt go yn sg oL S P Tx pasts runs typed) (x1 x2 : Int32) : ∃ r, f_X7_burrOf x1 x2 nw gN.2.2.2.2.1 gN.2.2.2.2.2.1 gN.2.2.2.2.2.2.1 gN.2.2.2.2.2.2.2.1 gN.2.2.2.2.2.2.2.2.1 gN.2.2.2.2.2.2.2.2.2.1 gN.2.2.2.2.2.2.2.2.2.2.1 gN.2.2.2.2.2.2.2.2.2.2.2.1 = some r ∧ f_X8_burrOf x1 x2 S = some r := by
  obtain ⟨σ, hs, tx, hg, hk, hK, rfl, hG, h1, h2, hm, hP, rfl⟩ := h
  obtain ⟨hlo, hb0, hb1, hch, hba, hKs, hmk, hst, hse, hfi, hgr, hbr, hpu, hnr⟩ := hg
  exact q_burrOf hb0 hb1 hm hk x1 x2
theorem st_lotOf (h : SY B gN gl gs gt go yn sg oL S P Tx pasts runs typed) (x1 x2 : Int32) : ∃ r, f_X7_lotOf x1 x2 nw gN.1 gN.2.1 gN.2.2.1 = some r ∧ f_X8_lotOf x1 x2 S = some r := by
  obtain ⟨σ, hs, tx, hg, hk, hK, rfl, hG, h1, h2, hm, hP, rfl⟩ := h
  obtain ⟨hlo, hb0, hb1, hch, hba, hKs, hmk, hst, hse, hfi, hgr, hbr, hpu, hnr⟩ := hg
  exact q_lotOf hlo hm hk x1 x2
theorem st_portionOf (h : SY B gN gl gs gt go yn sg oL S P Tx pasts runs typed) (x1 x2 x3 : Int32) : ∃ r, f_X7_portionOf x1 x2 x3 nw gN.2.2.2.2.2.2.2.2.2.2.2.2.1 gN.2.2.2.2.2.2.2.2.2.2.2.2.2.1 gN.2.2.2.2.2.2.2.2.2.2.2.2.2.2.1 gN.2.2.2.2.2.2.2.2.2.2.2.2.2.2.2.2.1 gN.2.2.2.2.2.2.2.2.2.2.2.2.2.2.2.2.2.1 gN.2.2.2.2.2.2.2.2.2.2.2.2.2.2.2.2.2.2.1 gN.2.2.2.2.2.2.2.2.2.2.2.2.2.2.2.2.2.2.2.2.2.2.2.1 = some r ∧ f_X8_portionOf x1 x2 x3 S = some r := by
  obtain ⟨σ, hs, tx, hg, hk, hK, rfl, hG, h1, h2, hm, hP, rfl⟩ := h
  obtain ⟨hlo, hb0, hb1, hch, hba, hKs, hmk, hst, hse, hfi, hgr, hbr, hpu, hnr⟩ := hg
  exact q_portionOf hch hba hst hm hk x1 x2 x3
theorem st_shotOf (h : SY B gN gl gs gt go yn sg oL S P Tx pasts runs typed) (x1 x2 : Int32) : ∃ r, f_X7_shotOf x1 x2 nw gN.2.2.2.2.2.2.2.2.2.2.2.2.2.2.2.2.2.2.2.2.1 gN.2.2.2.2.2.2.2.2.2.2.2.2.2.2.2.2.2.2.2.2.2.1 gN.2.2.2.2.2.2.2.2.2.2.2.2.2.2.2.2.2.2.2.2.2.2.2.1 = some r ∧ f_X8_shotOf x1 x2 S = some r := by
  obtain ⟨σ, hs, tx, hg, hk, hK, rfl, hG, h1, h2, hm, hP, rfl⟩ := h
  obtain ⟨hlo, hb0, hb1, hch, hba, hKs, hmk, hst, hse, hfi, hgr, hbr, hpu, hnr⟩ := hg
  exact q_shotOf hKs hst hm hk x1 x2
theorem st_best (h : SY B gN gl gs gt go yn sg oL S P Tx pasts runs typed) (x1 : Int32) : ∃ r, f_X7_best x1 nw gN.2.2.2.2.2.2.2.2.2.2.2.2.2.2.2.2.2.2.2.2.1 gN.2.2.2.2.2.2.2.2.2.2.2.2.2.2.2.2.2.2.2.2.2.1 gN.2.2.2.2.2.2.2.2.2.2.2.2.2.2.2.2.2.2.2.2.2.2.2.1 = some r ∧ f_X8_best x1 S = some r := by
  obtain ⟨σ, hs, tx, hg, hk, hK, rfl, hG, h1, h2, hm, hP, rfl⟩ := h
  obtain ⟨hlo, hb0, hb1, hch, hba, hKs, hmk, hst, hse, hfi, hgr, hbr, hpu, hnr⟩ := hg
  exact q_best hKs hst hm hk x1
theorem st_dialFor (h : SY B gN gl gs gt go yn sg oL S P Tx pasts runs typed) (x1 x2 : Int32) : ∃ r, f_X7_dialFor x1 x2 nw gN.2.2.2.2.2.1 gN.2.2.2.2.2.2.2.2.2.1 gN.2.2.2.2.2.2.2.2.2.2.2.2.2.2.2.2.2.2.2.2.2.2.2.1 = some r ∧ f_X8_dialFor x1 x2 S = some r := by
  obtain ⟨σ, hs, tx, hg, hk, hK, rfl, hG, h1, h2, hm, hP, rfl⟩ := h
  obtain ⟨hlo, hb0, hb1, hch, hba, hKs, hmk, hst, hse, hfi, hgr, hbr, hpu, hnr⟩ := hg
  exact q_dialFor hb0 hb1 hst hm hk x1 x2
theorem st_stale (h : SY B gN gl gs gt go yn sg oL S P Tx pasts runs typed) (x1 : Int32) : ∃ r, f_X7_stale x1 nw gN.2.1 gN.2.2.1 gN.2.2.2.2.1 gN.2.2.2.2.2.1 gN.2.2.2.2.2.2.2.2.1 gN.2.2.2.2.2.2.2.2.2.1 gN.2.2.2.2.2.2.2.2.2.2.2.2.1 gN.2.2.2.2.2.2.2.2.2.2.2.2.2.1 gN.2.2.2.2.2.2.2.2.2.2.2.2.2.2.1 = some r ∧ f_X8_stale x1 S = some r := by
  obtain ⟨σ, hs, tx, hg, hk, hK, rfl, hG, h1, h2, hm, hP, rfl⟩ := h
  obtain ⟨hlo, hb0, hb1, hch, hba, hKs, hmk, hst, hse, hfi, hgr, hbr, hpu, hnr⟩ := hg
  exact q_stale hb0 hb1 hlo hch hm hk x1
theorem st_coolAfter (h : SY B gN gl gs gt go yn sg oL S P Tx pasts runs typed) (hB : B < 2 ^ 28) (x1 x2 : Int32) : ∃ r, f_X7_coolAfter x1 x2 nw gN.2.2.2.2.2.1 gN.2.2.2.2.2.2.2.2.2.1 gN.2.2.2.2.2.2.2.2.2.2.2.2.2.2.2.2.2.2.2.2.2.2.2.2.1 = some r ∧ f_X8_coolAfter x1 x2 S = some r := by
  obtain ⟨σ, hs, tx, hg, hk, hK, rfl, hG, h1, h2, hm, hP, rfl⟩ := h
  obtain ⟨hlo, hb0, hb1, hch, hba, hKs, hmk, hst, hse, hfi, hgr, hbr, hpu, hnr⟩ := hg
  exact q_coolAfter hb0 hb1 hse hm hk hB x1 x2
theorem st_count (h : SY B gN gl gs gt go yn sg oL S P Tx pasts runs typed) (x1 : Int32) : ∃ r, f_X7_count x1 nw yn oL gN.2.2.2.1 gN.2.2.2.2.2.2.2.2.2.2.2.2.2.2.2.1 gN.2.2.2.2.2.2.2.2.2.2.2.2.2.2.2.2.2.2.2.1 gN.2.2.2.2.2.2.2.2.2.2.2.2.2.2.2.2.2.2.2.2.2.2.1 gN.2.2.2.2.2.2.2.2.2.2.2.2.2.2.2.2.2.2.2.2.2.2.2.1 gN.2.2.2.2.2.2.2.2.2.2.2.2.2.2.2.2.2.2.2.2.2.2.2.2.1 gN.2.2.2.2.2.2.2.2.2.2.2.2.2.2.2.2.2.2.2.2.2.2.2.2.2.1 gN.2.2.2.2.2.2.2.2.2.2.2.2.2.2.2.2.2.2.2.2.2.2.2.2.2.2.1 gN.2.2.2.2.2.2.2.2.2.2.2.2.2.2.2.2.2.2.2.2.2.2.2.2.2.2.2.1 gN.2.2.2.2.2.2.2.2.2.2.2.2.2.2.2.2.2.2.2.2.2.2.2.2.2.2.2.2.1 gN.2.2.2.2.2.2.2.2.2.2.2.2.2.2.2.2.2.2.2.2.2.2.2.2.2.2.2.2.2 = some r ∧ f_X8_count x1 S pasts typed = some r := by
  obtain ⟨σ, hs, tx, hg, hk, hK, rfl, hG, h1, h2, hm, hP, rfl⟩ := h
  obtain ⟨hlo, hb0, hb1, hch, hba, hKs, hmk, hst, hse, hfi, hgr, hbr, hpu, hnr⟩ := hg
  rw [h1.1, hP.1, h2.1]
  exact q_count hlo.2.1 hch.2.1 hba.2.1 hmk hst hse hfi hgr hbr hpu hnr hm hk x1
end ST2
