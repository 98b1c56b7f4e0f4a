/-! the law's loop -/
theorem vp_perm {D : va_G} {cl : List vw_C} {W W' : va_W} {H : Heap} (h : W.Perm W') (hP : va_P D cl W H) : va_P D cl W' H := fun k q hq => by
  obtain ⟨j, hj⟩ := List.getElem?_of_mem (h.mem_iff.mpr (List.mem_of_getElem? hq))
  exact hP j q hj
theorem vd_iff {A : Nat → Prop} {W : va_W} : va_D A W ↔ W.Pairwise (fun p q => p.1 ≠ q.1) ∧ ∀ q ∈ W, A q.1 := by
  constructor
  · rintro ⟨h1, h2⟩
    refine ⟨List.pairwise_iff_getElem.mpr (fun i j hi hj hij e => ?_), fun q hq => ?_⟩
    · have := h1 i j _ _ (List.getElem?_eq_getElem hi) (List.getElem?_eq_getElem hj) e
      omega
    · obtain ⟨k, hk⟩ := List.getElem?_of_mem hq
      exact h2 k q hk
  · rintro ⟨h1, h2⟩
    have h1' := List.pairwise_iff_getElem.mp h1
    refine ⟨fun i j p q hp hq e => ?_, fun k q hq => h2 q (List.mem_of_getElem? hq)⟩
    obtain ⟨hi, rfl⟩ := List.getElem?_eq_some_iff.mp hp
    obtain ⟨hj, rfl⟩ := List.getElem?_eq_some_iff.mp hq
    rcases Nat.lt_trichotomy i j with c | c | c
    · exact absurd e (h1' i j hi hj c)
    · exact c
    · exact absurd e.symm (h1' j i hj hi c)
theorem vd_perm {A : Nat → Prop} {W W' : va_W} (h : W.Perm W') (hD : va_D A W) : va_D A W' := by
  rw [vd_iff] at hD ⊢
  exact ⟨(h.pairwise_iff (fun q => Ne.symm q)).mp hD.1, fun q hq => hD.2 q (h.mem_iff.mpr hq)⟩
theorem pm_chg {α : Type} (X a s l m n o : List α) : ((X ++ a ++ s) ++ (l ++ m ++ n ++ o)).Perm ((X ++ s ++ o) ++ (a ++ l ++ m ++ n)) := by
  simp only [List.append_assoc]
  refine List.Perm.append_left X ?_
  refine (List.perm_append_comm_assoc a s _).trans (List.Perm.append_left s ?_)
  have := List.perm_append_comm (l₁ := a ++ (l ++ (m ++ n))) (l₂ := o)
  simp only [List.append_assoc] at this
  exact this
theorem pm_undo {α : Type} (X a s l m n o : List α) : ((X ++ a ++ s) ++ (l ++ m ++ n ++ o)).Perm ((X ++ l ++ s) ++ (m ++ n ++ o ++ a)) := by
  simp only [List.append_assoc]
  refine List.Perm.append_left X ?_
  have := List.perm_append_comm (l₁ := a) (l₂ := s ++ (l ++ (m ++ (n ++ o))))
  simp only [List.append_assoc] at this
  exact this.trans (List.perm_append_comm_assoc s l _)
section
variable {p : Program} {l : Launch} {e : Env} {s : State} {m : MethodId} {below : List Frame} {meth : Method} {c : Code} {D : va_G} {cI cC : ClassId} {b L : Nat} {xs : Nat → Int32}
def hd_law (cI cC : ClassId) (t0 : Nat) (t1 : Nat) (t2 : Nat) (t3 : Nat) (mb : Nat → Nat) (nw : Nat) (sp : Nat) (yl : Nat) (ys : Nat) (yt : Nat) (yo : Nat) (yn : Int32) (sg : Nat → Int32) (oL : Int32) (oA : Int32) (oC : Int32) (oF : Int32) (oS : Int32) (oD : Int32) (oP : Int32) (oR : Int32) (oU : Int32) (S : Nat → Int32) (P : Nat → Int32) (Hd : Nat → Int32) (Tr : Nat → Int32) (Tx : Nat → Int32) (told : Nat → Int32) (pasts : Int32) (runs : Int32) (typed : Int32) (spot : Int32) (frm : Int32) (reas : Int32) (caus : Int32) (ords : Int32) (ordr : Int32) : va_W := [(t0, .inr (7, [.ref t1, .ref t2, .ref nw, .ref sp])), (t1, .inr (2, [.ref yl, .ref ys, .ref yt, .ref yo, .int yn])), (t2, .inr (4, [.ref t3, .int oL, .int oA, .int oC, .int oF, .int oS, .int oD, .int oP, .int oR, .int oU])), (t3, .inl (cC, 60, .inl sg)), ((mb 0), .inr (8, [.ref (mb 1), .ref (mb 2), .ref (mb 3), .ref (mb 4), .int pasts, .int runs, .ref (mb 5), .int typed, .int spot, .int frm, .int reas, .int caus, .int ords, .int ordr, .ref (mb 6)])), ((mb 1), .inl (cI, 631, .inl S)), ((mb 2), .inl (cI, 2524, .inl P)), ((mb 3), .inl (cI, 631, .inl Hd)), ((mb 4), .inl (cI, 631, .inl Tr)), ((mb 5), .inl (cI, 60, .inl Tx)), ((mb 6), .inl (cI, 2, .inl told))]
/-- what holds ahead of each call of the law -/
def INV (D : va_G) (cI cC : ClassId) (s : State) (B : Nat) (t0 t1 t2 t3 : Nat) (mb : Nat → Nat) (H : Heap) (locs : List Loc) : Prop := ∃ (aN : Nat → Nat) (aS : Nat → Nat) (al : Nat → Nat) (as_ : Nat → Nat) (at_ : Nat → Nat) (ao : Nat → Nat) (nw : Nat) (sp : Nat) (yl : Nat) (ys : Nat) (yt : Nat) (yo : Nat) (yn : Int32) (sg : Nat → Int32) (oL : Int32) (oA : Int32) (oC : Int32) (oF : Int32) (oS : Int32) (oD : Int32) (oP : Int32) (oR : Int32) (oU : Int32) (S : Nat → Int32) (P : Nat → Int32) (Hd : Nat → Int32) (Tr : Nat → Int32) (Tx : Nat → Int32) (told : Nat → Int32) (pasts : Int32) (runs : Int32) (typed : Int32) (spot : Int32) (frm : Int32) (reas : Int32) (caus : Int32) (ords : Int32) (ordr : Int32) (gN : Gr) (gS : Gr) (gl : Gr) (gs : Gr) (gt : Gr) (go : Gr), SY B gN gl gs gt go yn sg oL S P Tx pasts runs typed ∧ va_P D vwCl ((hd_law cI cC t0 t1 t2 t3 mb nw sp yl ys yt yo yn sg oL oA oC oF oS oD oP oR oU S P Hd Tr Tx told pasts runs typed spot frm reas caus ords ordr ++ w_gr cI cC nw aN gN ++ w_gr cI cC sp aS gS) ++ (w_gr cI cC yl al gl ++ w_gr cI cC ys as_ gs ++ w_gr cI cC yt at_ gt ++ w_gr cI cC yo ao go)) H ∧ va_D (fun q : Nat => s.heap.size ≤ q) ((hd_law cI cC t0 t1 t2 t3 mb nw sp yl ys yt yo yn sg oL oA oC oF oS oD oP oR oU S P Hd Tr Tx told pasts runs typed spot frm reas caus ords ordr ++ w_gr cI cC nw aN gN ++ w_gr cI cC sp aS gS) ++ (w_gr cI cC yl al gl ++ w_gr cI cC ys as_ gs ++ w_gr cI cC yt at_ gt ++ w_gr cI cC yo ao go)) ∧ va_S (fun q : Nat => s.heap.size ≤ q) s.heap H locs
theorem SY.up {B C : Nat} {gN gl gs gt go : Gr} {yn : Int32} {sg : Nat → Int32} {oL : Int32} {S P Tx : Nat → Int32} {pasts runs typed : Int32} (h : SY B gN gl gs gt go yn sg oL S P Tx pasts runs typed) (hBC : B ≤ C) : SY C gN gl gs gt go yn sg oL S P Tx pasts runs typed := by
  obtain ⟨σ, hs, tx, h1, h2, h3, h4⟩ := h
  exact ⟨σ, hs, tx, h1, KK_up h2 hBC, fun τ hτ => KK_up (h3 τ hτ) hBC, h4⟩
set_option maxHeartbeats 8000000 in
set_option maxRecDepth 100000 in
theorem ls_fill {t0 t1 t2 t3 B : Nat} {mb : Nat → Nat} {H : Heap} {locs : List Loc} (hLX : LX p m c s b L xs D cI cC) (j : Nat) (hi : 4 * j + 4 ≤ L) (hB : B + 400000 < 2 ^ 28) (hI : INV D cI cC s B t0 t1 t2 t3 mb H locs) (ls : Array Slot) (hl : lv_has ls 4 [(3, .int (nI (4 * j))), (0, .ref b), (1, .ref t0), (2, .ref (mb 0))]) (kk : ∀ (H : Heap) (locs : List Loc), INV D cI cC s (B + 90000) t0 t1 t2 t3 mb H locs → ∀ ls : Array Slot, lv_has ls 4 [(3, .int (nI (4 * j))), (0, .ref b), (1, .ref t0), (2, .ref (mb 0))] → W p l e room_1 s m #[Value.ref b] below meth c H locs 600000 7302250 (lw_Z below #[Value.ref b] s) (F0 m 739 ls [])) : W p l e room_1 s m #[Value.ref b] below meth c H locs 600000 7302250 (lw_Z below #[Value.ref b] s) (F0 m 140 ls []) := by
  obtain ⟨aN, aS, al, as_, at_, ao, nw, sp, yl, ys, yt, yo, yn, sg, oL, oA, oC, oF, oS, oD, oP, oR, oU, S, P, Hd, Tr, Tx, told, pasts, runs, typed, spot, frm, reas, caus, ords, ordr, gN, gS, gl, gs, gt, go, hSY, hP, hD, hS⟩ := hI
  obtain ⟨⟨r1, nw', sp', yl', ys', yt', yo', yn', gS'⟩, ⟨r2, S', P', pasts'⟩, e1, e2, he, hc⟩ := st_fill (nw := nw) (sp := sp) (yl := yl) (ys := ys) (yt := yt) (yo := yo) (gS := gS) hSY (by omega) (xs (4 * j + 1)) (xs (4 * j + 2))
  refine lc_fill t0 t1 t2 t3 mb aN aS nw sp yl ys yt yo yn sg oL oA oC oF oS oD oP oR oU S P Hd Tr Tx told pasts runs typed spot frm reas caus ords ordr gN gS (w_gr cI cC yl al gl ++ w_gr cI cC ys as_ gs ++ w_gr cI cC yt at_ gt ++ w_gr cI cC yo ao go) hLX (4 * j) hi _ e1 _ e2 he H locs hP hD hS ls hl (fun H locs hP hD hS ls hl => kk H locs ?_ ls hl)
  have hP : va_P D vwCl ((hd_law cI cC t0 t1 t2 t3 mb nw' sp' yl' ys' yt' yo' yn' sg oL oA oC oF oS oD oP oR oU S' P' Hd Tr Tx told pasts' runs typed spot frm reas caus ords ordr ++ w_gr cI cC nw aN gN ++ w_gr cI cC sp aS gS') ++ (w_gr cI cC yl al gl ++ w_gr cI cC ys as_ gs ++ w_gr cI cC yt at_ gt ++ w_gr cI cC yo ao go)) H := hP
  have hD : va_D (fun q : Nat => s.heap.size ≤ q) ((hd_law cI cC t0 t1 t2 t3 mb nw' sp' yl' ys' yt' yo' yn' sg oL oA oC oF oS oD oP oR oU S' P' Hd Tr Tx told pasts' runs typed spot frm reas caus ords ordr ++ w_gr cI cC nw aN gN ++ w_gr cI cC sp aS gS') ++ (w_gr cI cC yl al gl ++ w_gr cI cC ys as_ gs ++ w_gr cI cC yt at_ gt ++ w_gr cI cC yo ao go)) := hD
  rcases hc with ⟨q1, q2, q3, q4, q5, q6, h7⟩ | ⟨q1, q2, q3, q4, q5, q6, h7⟩
  · obtain rfl : nw' = nw := q1
    obtain rfl : sp' = sp := q2
    obtain rfl : yl' = yl := q3
    obtain rfl : ys' = ys := q4
    obtain rfl : yt' = yt := q5
    obtain rfl : yo' = yo := q6
    exact ⟨aN, aS, al, as_, at_, ao, nw', sp', yl', ys', yt', yo', yn', sg, oL, oA, oC, oF, oS, oD, oP, oR, oU, S', P', Hd, Tr, Tx, told, pasts', runs, typed, spot, frm, reas, caus, ords, ordr, gN, gS', gl, gs, gt, go, h7, hP, hD, hS⟩
  · obtain rfl : nw' = sp := q1
    obtain rfl : sp' = yo := q2
    obtain rfl : yl' = nw := q3
    obtain rfl : ys' = yl := q4
    obtain rfl : yt' = ys := q5
    obtain rfl : yo' = yt := q6
    exact ⟨aS, ao, aN, al, as_, at_, nw', sp', yl', ys', yt', yo', yn', sg, oL, oA, oC, oF, oS, oD, oP, oR, oU, S', P', Hd, Tr, Tx, told, pasts', runs, typed, spot, frm, reas, caus, ords, ordr, gS', go, gN, gl, gs, gt, h7, vp_perm (pm_chg _ _ _ _ _ _ _) hP, vd_perm (pm_chg _ _ _ _ _ _ _) hD, hS⟩
set_option maxHeartbeats 8000000 in
set_option maxRecDepth 100000 in
theorem ls_grind {t0 t1 t2 t3 B : Nat} {mb : Nat → Nat} {H : Heap} {locs : List Loc} (hLX : LX p m c s b L xs D cI cC) (j : Nat) (hi : 4 * j + 4 ≤ L) (hB : B + 400000 < 2 ^ 28) (hI : INV D cI cC s B t0 t1 t2 t3 mb H locs) (ls : Array Slot) (hl : lv_has ls 4 [(3, .int (nI (4 * j))), (0, .ref b), (1, .ref t0), (2, .ref (mb 0))]) (kk : ∀ (H : Heap) (locs : List Loc), INV D cI cC s (B + 90000) t0 t1 t2 t3 mb H locs → ∀ ls : Array Slot, lv_has ls 4 [(3, .int (nI (4 * j))), (0, .ref b), (1, .ref t0), (2, .ref (mb 0))] → W p l e room_1 s m #[Value.ref b] below meth c H locs 600000 7302250 (lw_Z below #[Value.ref b] s) (F0 m 739 ls [])) : W p l e room_1 s m #[Value.ref b] below meth c H locs 600000 7302250 (lw_Z below #[Value.ref b] s) (F0 m 173 ls []) := by
  obtain ⟨aN, aS, al, as_, at_, ao, nw, sp, yl, ys, yt, yo, yn, sg, oL, oA, oC, oF, oS, oD, oP, oR, oU, S, P, Hd, Tr, Tx, told, pasts, runs, typed, spot, frm, reas, caus, ords, ordr, gN, gS, gl, gs, gt, go, hSY, hP, hD, hS⟩ := hI
  obtain ⟨⟨r1, nw', sp', yl', ys', yt', yo', yn', gS'⟩, ⟨r2, S', P', pasts'⟩, e1, e2, he, hc⟩ := st_grind (nw := nw) (sp := sp) (yl := yl) (ys := ys) (yt := yt) (yo := yo) (gS := gS) hSY (by omega) (xs (4 * j + 1)) (xs (4 * j + 2))
  refine lc_grind t0 t1 t2 t3 mb aN aS nw sp yl ys yt yo yn sg oL oA oC oF oS oD oP oR oU S P Hd Tr Tx told pasts runs typed spot frm reas caus ords ordr gN gS (w_gr cI cC yl al gl ++ w_gr cI cC ys as_ gs ++ w_gr cI cC yt at_ gt ++ w_gr cI cC yo ao go) hLX (4 * j) hi _ e1 _ e2 he H locs hP hD hS ls hl (fun H locs hP hD hS ls hl => kk H locs ?_ ls hl)
  have hP : va_P D vwCl ((hd_law cI cC t0 t1 t2 t3 mb nw' sp' yl' ys' yt' yo' yn' sg oL oA oC oF oS oD oP oR oU S' P' Hd Tr Tx told pasts' runs typed spot frm reas caus ords ordr ++ w_gr cI cC nw aN gN ++ w_gr cI cC sp aS gS') ++ (w_gr cI cC yl al gl ++ w_gr cI cC ys as_ gs ++ w_gr cI cC yt at_ gt ++ w_gr cI cC yo ao go)) H := hP
  have hD : va_D (fun q : Nat => s.heap.size ≤ q) ((hd_law cI cC t0 t1 t2 t3 mb nw' sp' yl' ys' yt' yo' yn' sg oL oA oC oF oS oD oP oR oU S' P' Hd Tr Tx told pasts' runs typed spot frm reas caus ords ordr ++ w_gr cI cC nw aN gN ++ w_gr cI cC sp aS gS') ++ (w_gr cI cC yl al gl ++ w_gr cI cC ys as_ gs ++ w_gr cI cC yt at_ gt ++ w_gr cI cC yo ao go)) := hD
  rcases hc with ⟨q1, q2, q3, q4, q5, q6, h7⟩ | ⟨q1, q2, q3, q4, q5, q6, h7⟩
  · obtain rfl : nw' = nw := q1
    obtain rfl : sp' = sp := q2
    obtain rfl : yl' = yl := q3
    obtain rfl : ys' = ys := q4
    obtain rfl : yt' = yt := q5
    obtain rfl : yo' = yo := q6
    exact ⟨aN, aS, al, as_, at_, ao, nw', sp', yl', ys', yt', yo', yn', sg, oL, oA, oC, oF, oS, oD, oP, oR, oU, S', P', Hd, Tr, Tx, told, pasts', runs, typed, spot, frm, reas, caus, ords, ordr, gN, gS', gl, gs, gt, go, h7, hP, hD, hS⟩
  · obtain rfl : nw' = sp := q1
    obtain rfl : sp' = yo := q2
    obtain rfl : yl' = nw := q3
    obtain rfl : ys' = yl := q4
    obtain rfl : yt' = ys := q5
    obtain rfl : yo' = yt := q6
    exact ⟨aS, ao, aN, al, as_, at_, nw', sp', yl', ys', yt', yo', yn', sg, oL, oA, oC, oF, oS, oD, oP, oR, oU, S', P', Hd, Tr, Tx, told, pasts', runs, typed, spot, frm, reas, caus, ords, ordr, gS', go, gN, gl, gs, gt, h7, vp_perm (pm_chg _ _ _ _ _ _ _) hP, vd_perm (pm_chg _ _ _ _ _ _ _) hD, hS⟩
set_option maxHeartbeats 8000000 in
set_option maxRecDepth 100000 in
theorem ls_dial {t0 t1 t2 t3 B : Nat} {mb : Nat → Nat} {H : Heap} {locs : List Loc} (hLX : LX p m c s b L xs D cI cC) (j : Nat) (hi : 4 * j + 4 ≤ L) (hB : B + 400000 < 2 ^ 28) (hI : INV D cI cC s B t0 t1 t2 t3 mb H locs) (ls : Array Slot) (hl : lv_has ls 4 [(3, .int (nI (4 * j))), (0, .ref b), (1, .ref t0), (2, .ref (mb 0))]) (kk : ∀ (H : Heap) (locs : List Loc), INV D cI cC s (B + 90000) t0 t1 t2 t3 mb H locs → ∀ ls : Array Slot, lv_has ls 4 [(3, .int (nI (4 * j))), (0, .ref b), (1, .ref t0), (2, .ref (mb 0))] → W p l e room_1 s m #[Value.ref b] below meth c H locs 600000 7302250 (lw_Z below #[Value.ref b] s) (F0 m 739 ls [])) : W p l e room_1 s m #[Value.ref b] below meth c H locs 600000 7302250 (lw_Z below #[Value.ref b] s) (F0 m 206 ls []) := by
  obtain ⟨aN, aS, al, as_, at_, ao, nw, sp, yl, ys, yt, yo, yn, sg, oL, oA, oC, oF, oS, oD, oP, oR, oU, S, P, Hd, Tr, Tx, told, pasts, runs, typed, spot, frm, reas, caus, ords, ordr, gN, gS, gl, gs, gt, go, hSY, hP, hD, hS⟩ := hI
  obtain ⟨⟨r1, nw', sp', yl', ys', yt', yo', yn', gS'⟩, ⟨r2, S', P', pasts'⟩, e1, e2, he, hc⟩ := st_dial (nw := nw) (sp := sp) (yl := yl) (ys := ys) (yt := yt) (yo := yo) (gS := gS) hSY (by omega) (xs (4 * j + 1)) (xs (4 * j + 2))
  refine lc_dial t0 t1 t2 t3 mb aN aS nw sp yl ys yt yo yn sg oL oA oC oF oS oD oP oR oU S P Hd Tr Tx told pasts runs typed spot frm reas caus ords ordr gN gS (w_gr cI cC yl al gl ++ w_gr cI cC ys as_ gs ++ w_gr cI cC yt at_ gt ++ w_gr cI cC yo ao go) hLX (4 * j) hi _ e1 _ e2 he H locs hP hD hS ls hl (fun H locs hP hD hS ls hl => kk H locs ?_ ls hl)
  have hP : va_P D vwCl ((hd_law cI cC t0 t1 t2 t3 mb nw' sp' yl' ys' yt' yo' yn' sg oL oA oC oF oS oD oP oR oU S' P' Hd Tr Tx told pasts' runs typed spot frm reas caus ords ordr ++ w_gr cI cC nw aN gN ++ w_gr cI cC sp aS gS') ++ (w_gr cI cC yl al gl ++ w_gr cI cC ys as_ gs ++ w_gr cI cC yt at_ gt ++ w_gr cI cC yo ao go)) H := hP
  have hD : va_D (fun q : Nat => s.heap.size ≤ q) ((hd_law cI cC t0 t1 t2 t3 mb nw' sp' yl' ys' yt' yo' yn' sg oL oA oC oF oS oD oP oR oU S' P' Hd Tr Tx told pasts' runs typed spot frm reas caus ords ordr ++ w_gr cI cC nw aN gN ++ w_gr cI cC sp aS gS') ++ (w_gr cI cC yl al gl ++ w_gr cI cC ys as_ gs ++ w_gr cI cC yt at_ gt ++ w_gr cI cC yo ao go)) := hD
  rcases hc with ⟨q1, q2, q3, q4, q5, q6, h7⟩ | ⟨q1, q2, q3, q4, q5, q6, h7⟩
  · obtain rfl : nw' = nw := q1
    obtain rfl : sp' = sp := q2
    obtain rfl : yl' = yl := q3
    obtain rfl : ys' = ys := q4
    obtain rfl : yt' = yt := q5
    obtain rfl : yo' = yo := q6
    exact ⟨aN, aS, al, as_, at_, ao, nw', sp', yl', ys', yt', yo', yn', sg, oL, oA, oC, oF, oS, oD, oP, oR, oU, S', P', Hd, Tr, Tx, told, pasts', runs, typed, spot, frm, reas, caus, ords, ordr, gN, gS', gl, gs, gt, go, h7, hP, hD, hS⟩
  · obtain rfl : nw' = sp := q1
    obtain rfl : sp' = yo := q2
    obtain rfl : yl' = nw := q3
    obtain rfl : ys' = yl := q4
    obtain rfl : yt' = ys := q5
    obtain rfl : yo' = yt := q6
    exact ⟨aS, ao, aN, al, as_, at_, nw', sp', yl', ys', yt', yo', yn', sg, oL, oA, oC, oF, oS, oD, oP, oR, oU, S', P', Hd, Tr, Tx, told, pasts', runs, typed, spot, frm, reas, caus, ords, ordr, gS', go, gN, gl, gs, gt, h7, vp_perm (pm_chg _ _ _ _ _ _ _) hP, vd_perm (pm_chg _ _ _ _ _ _ _) hD, hS⟩
set_option maxHeartbeats 8000000 in
set_option maxRecDepth 100000 in
theorem ls_rest {t0 t1 t2 t3 B : Nat} {mb : Nat → Nat} {H : Heap} {locs : List Loc} (hLX : LX p m c s b L xs D cI cC) (j : Nat) (hi : 4 * j + 4 ≤ L) (hB : B + 400000 < 2 ^ 28) (hI : INV D cI cC s B t0 t1 t2 t3 mb H locs) (ls : Array Slot) (hl : lv_has ls 4 [(3, .int (nI (4 * j))), (0, .ref b), (1, .ref t0), (2, .ref (mb 0))]) (kk : ∀ (H : Heap) (locs : List Loc), INV D cI cC s (B + 90000) t0 t1 t2 t3 mb H locs → ∀ ls : Array Slot, lv_has ls 4 [(3, .int (nI (4 * j))), (0, .ref b), (1, .ref t0), (2, .ref (mb 0))] → W p l e room_1 s m #[Value.ref b] below meth c H locs 600000 7302250 (lw_Z below #[Value.ref b] s) (F0 m 739 ls [])) : W p l e room_1 s m #[Value.ref b] below meth c H locs 600000 7302250 (lw_Z below #[Value.ref b] s) (F0 m 239 ls []) := by
  obtain ⟨aN, aS, al, as_, at_, ao, nw, sp, yl, ys, yt, yo, yn, sg, oL, oA, oC, oF, oS, oD, oP, oR, oU, S, P, Hd, Tr, Tx, told, pasts, runs, typed, spot, frm, reas, caus, ords, ordr, gN, gS, gl, gs, gt, go, hSY, hP, hD, hS⟩ := hI
  obtain ⟨⟨r1, nw', sp', yl', ys', yt', yo', yn', gS'⟩, ⟨r2, S', P', pasts'⟩, e1, e2, he, hc⟩ := st_rest (nw := nw) (sp := sp) (yl := yl) (ys := ys) (yt := yt) (yo := yo) (gS := gS) hSY (by omega) (xs (4 * j + 1))
  refine lc_rest t0 t1 t2 t3 mb aN aS nw sp yl ys yt yo yn sg oL oA oC oF oS oD oP oR oU S P Hd Tr Tx told pasts runs typed spot frm reas caus ords ordr gN gS (w_gr cI cC yl al gl ++ w_gr cI cC ys as_ gs ++ w_gr cI cC yt at_ gt ++ w_gr cI cC yo ao go) hLX (4 * j) hi _ e1 _ e2 he H locs hP hD hS ls hl (fun H locs hP hD hS ls hl => kk H locs ?_ ls hl)
  have hP : va_P D vwCl ((hd_law cI cC t0 t1 t2 t3 mb nw' sp' yl' ys' yt' yo' yn' sg oL oA oC oF oS oD oP oR oU S' P' Hd Tr Tx told pasts' runs typed spot frm reas caus ords ordr ++ w_gr cI cC nw aN gN ++ w_gr cI cC sp aS gS') ++ (w_gr cI cC yl al gl ++ w_gr cI cC ys as_ gs ++ w_gr cI cC yt at_ gt ++ w_gr cI cC yo ao go)) H := hP
  have hD : va_D (fun q : Nat => s.heap.size ≤ q) ((hd_law cI cC t0 t1 t2 t3 mb nw' sp' yl' ys' yt' yo' yn' sg oL oA oC oF oS oD oP oR oU S' P' Hd Tr Tx told pasts' runs typed spot frm reas caus ords ordr ++ w_gr cI cC nw aN gN ++ w_gr cI cC sp aS gS') ++ (w_gr cI cC yl al gl ++ w_gr cI cC ys as_ gs ++ w_gr cI cC yt at_ gt ++ w_gr cI cC yo ao go)) := hD
  rcases hc with ⟨q1, q2, q3, q4, q5, q6, h7⟩ | ⟨q1, q2, q3, q4, q5, q6, h7⟩
  · obtain rfl : nw' = nw := q1
    obtain rfl : sp' = sp := q2
    obtain rfl : yl' = yl := q3
    obtain rfl : ys' = ys := q4
    obtain rfl : yt' = yt := q5
    obtain rfl : yo' = yo := q6
    exact ⟨aN, aS, al, as_, at_, ao, nw', sp', yl', ys', yt', yo', yn', sg, oL, oA, oC, oF, oS, oD, oP, oR, oU, S', P', Hd, Tr, Tx, told, pasts', runs, typed, spot, frm, reas, caus, ords, ordr, gN, gS', gl, gs, gt, go, h7, hP, hD, hS⟩
  · obtain rfl : nw' = sp := q1
    obtain rfl : sp' = yo := q2
    obtain rfl : yl' = nw := q3
    obtain rfl : ys' = yl := q4
    obtain rfl : yt' = ys := q5
    obtain rfl : yo' = yt := q6
    exact ⟨aS, ao, aN, al, as_, at_, nw', sp', yl', ys', yt', yo', yn', sg, oL, oA, oC, oF, oS, oD, oP, oR, oU, S', P', Hd, Tr, Tx, told, pasts', runs, typed, spot, frm, reas, caus, ords, ordr, gS', go, gN, gl, gs, gt, h7, vp_perm (pm_chg _ _ _ _ _ _ _) hP, vd_perm (pm_chg _ _ _ _ _ _ _) hD, hS⟩
set_option maxHeartbeats 8000000 in
set_option maxRecDepth 100000 in
theorem ls_shot {t0 t1 t2 t3 B : Nat} {mb : Nat → Nat} {H : Heap} {locs : List Loc} (hLX : LX p m c s b L xs D cI cC) (j : Nat) (hi : 4 * j + 4 ≤ L) (hB : B + 400000 < 2 ^ 28) (hI : INV D cI cC s B t0 t1 t2 t3 mb H locs) (ls : Array Slot) (hl : lv_has ls 4 [(3, .int (nI (4 * j))), (0, .ref b), (1, .ref t0), (2, .ref (mb 0))]) (kk : ∀ (H : Heap) (locs : List Loc), INV D cI cC s (B + 90000) t0 t1 t2 t3 mb H locs → ∀ ls : Array Slot, lv_has ls 4 [(3, .int (nI (4 * j))), (0, .ref b), (1, .ref t0), (2, .ref (mb 0))] → W p l e room_1 s m #[Value.ref b] below meth c H locs 600000 7302250 (lw_Z below #[Value.ref b] s) (F0 m 739 ls [])) : W p l e room_1 s m #[Value.ref b] below meth c H locs 600000 7302250 (lw_Z below #[Value.ref b] s) (F0 m 262 ls []) := by
  obtain ⟨aN, aS, al, as_, at_, ao, nw, sp, yl, ys, yt, yo, yn, sg, oL, oA, oC, oF, oS, oD, oP, oR, oU, S, P, Hd, Tr, Tx, told, pasts, runs, typed, spot, frm, reas, caus, ords, ordr, gN, gS, gl, gs, gt, go, hSY, hP, hD, hS⟩ := hI
  obtain ⟨⟨r1, nw', sp', yl', ys', yt', yo', yn', gS'⟩, ⟨r2, S', P', pasts'⟩, e1, e2, he, hc⟩ := st_shot (nw := nw) (sp := sp) (yl := yl) (ys := ys) (yt := yt) (yo := yo) (gS := gS) hSY (by omega) 
  refine lc_shot t0 t1 t2 t3 mb aN aS nw sp yl ys yt yo yn sg oL oA oC oF oS oD oP oR oU S P Hd Tr Tx told pasts runs typed spot frm reas caus ords ordr gN gS (w_gr cI cC yl al gl ++ w_gr cI cC ys as_ gs ++ w_gr cI cC yt at_ gt ++ w_gr cI cC yo ao go) hLX (4 * j) hi _ e1 _ e2 he H locs hP hD hS ls hl (fun H locs hP hD hS ls hl => kk H locs ?_ ls hl)
  have hP : va_P D vwCl ((hd_law cI cC t0 t1 t2 t3 mb nw' sp' yl' ys' yt' yo' yn' sg oL oA oC oF oS oD oP oR oU S' P' Hd Tr Tx told pasts' runs typed spot frm reas caus ords ordr ++ w_gr cI cC nw aN gN ++ w_gr cI cC sp aS gS') ++ (w_gr cI cC yl al gl ++ w_gr cI cC ys as_ gs ++ w_gr cI cC yt at_ gt ++ w_gr cI cC yo ao go)) H := hP
  have hD : va_D (fun q : Nat => s.heap.size ≤ q) ((hd_law cI cC t0 t1 t2 t3 mb nw' sp' yl' ys' yt' yo' yn' sg oL oA oC oF oS oD oP oR oU S' P' Hd Tr Tx told pasts' runs typed spot frm reas caus ords ordr ++ w_gr cI cC nw aN gN ++ w_gr cI cC sp aS gS') ++ (w_gr cI cC yl al gl ++ w_gr cI cC ys as_ gs ++ w_gr cI cC yt at_ gt ++ w_gr cI cC yo ao go)) := hD
  rcases hc with ⟨q1, q2, q3, q4, q5, q6, h7⟩ | ⟨q1, q2, q3, q4, q5, q6, h7⟩
  · obtain rfl : nw' = nw := q1
    obtain rfl : sp' = sp := q2
    obtain rfl : yl' = yl := q3
    obtain rfl : ys' = ys := q4
    obtain rfl : yt' = yt := q5
    obtain rfl : yo' = yo := q6
    exact ⟨aN, aS, al, as_, at_, ao, nw', sp', yl', ys', yt', yo', yn', sg, oL, oA, oC, oF, oS, oD, oP, oR, oU, S', P', Hd, Tr, Tx, told, pasts', runs, typed, spot, frm, reas, caus, ords, ordr, gN, gS', gl, gs, gt, go, h7, hP, hD, hS⟩
  · obtain rfl : nw' = sp := q1
    obtain rfl : sp' = yo := q2
    obtain rfl : yl' = nw := q3
    obtain rfl : ys' = yl := q4
    obtain rfl : yt' = ys := q5
    obtain rfl : yo' = yt := q6
    exact ⟨aS, ao, aN, al, as_, at_, nw', sp', yl', ys', yt', yo', yn', sg, oL, oA, oC, oF, oS, oD, oP, oR, oU, S', P', Hd, Tr, Tx, told, pasts', runs, typed, spot, frm, reas, caus, ords, ordr, gS', go, gN, gl, gs, gt, h7, vp_perm (pm_chg _ _ _ _ _ _ _) hP, vd_perm (pm_chg _ _ _ _ _ _ _) hD, hS⟩
set_option maxHeartbeats 8000000 in
set_option maxRecDepth 100000 in
theorem ls_purge {t0 t1 t2 t3 B : Nat} {mb : Nat → Nat} {H : Heap} {locs : List Loc} (hLX : LX p m c s b L xs D cI cC) (j : Nat) (hi : 4 * j + 4 ≤ L) (hB : B + 400000 < 2 ^ 28) (hI : INV D cI cC s B t0 t1 t2 t3 mb H locs) (ls : Array Slot) (hl : lv_has ls 4 [(3, .int (nI (4 * j))), (0, .ref b), (1, .ref t0), (2, .ref (mb 0))]) (kk : ∀ (H : Heap) (locs : List Loc), INV D cI cC s (B + 90000) t0 t1 t2 t3 mb H locs → ∀ ls : Array Slot, lv_has ls 4 [(3, .int (nI (4 * j))), (0, .ref b), (1, .ref t0), (2, .ref (mb 0))] → W p l e room_1 s m #[Value.ref b] below meth c H locs 600000 7302250 (lw_Z below #[Value.ref b] s) (F0 m 739 ls [])) : W p l e room_1 s m #[Value.ref b] below meth c H locs 600000 7302250 (lw_Z below #[Value.ref b] s) (F0 m 275 ls []) := by
  obtain ⟨aN, aS, al, as_, at_, ao, nw, sp, yl, ys, yt, yo, yn, sg, oL, oA, oC, oF, oS, oD, oP, oR, oU, S, P, Hd, Tr, Tx, told, pasts, runs, typed, spot, frm, reas, caus, ords, ordr, gN, gS, gl, gs, gt, go, hSY, hP, hD, hS⟩ := hI
  obtain ⟨⟨r1, nw', sp', yl', ys', yt', yo', yn', gS'⟩, ⟨r2, S', P', pasts'⟩, e1, e2, he, hc⟩ := st_purge (nw := nw) (sp := sp) (yl := yl) (ys := ys) (yt := yt) (yo := yo) (gS := gS) hSY (by omega) 
  refine lc_purge t0 t1 t2 t3 mb aN aS nw sp yl ys yt yo yn sg oL oA oC oF oS oD oP oR oU S P Hd Tr Tx told pasts runs typed spot frm reas caus ords ordr gN gS (w_gr cI cC yl al gl ++ w_gr cI cC ys as_ gs ++ w_gr cI cC yt at_ gt ++ w_gr cI cC yo ao go) hLX (4 * j) hi _ e1 _ e2 he H locs hP hD hS ls hl (fun H locs hP hD hS ls hl => kk H locs ?_ ls hl)
  have hP : va_P D vwCl ((hd_law cI cC t0 t1 t2 t3 mb nw' sp' yl' ys' yt' yo' yn' sg oL oA oC oF oS oD oP oR oU S' P' Hd Tr Tx told pasts' runs typed spot frm reas caus ords ordr ++ w_gr cI cC nw aN gN ++ w_gr cI cC sp aS gS') ++ (w_gr cI cC yl al gl ++ w_gr cI cC ys as_ gs ++ w_gr cI cC yt at_ gt ++ w_gr cI cC yo ao go)) H := hP
  have hD : va_D (fun q : Nat => s.heap.size ≤ q) ((hd_law cI cC t0 t1 t2 t3 mb nw' sp' yl' ys' yt' yo' yn' sg oL oA oC oF oS oD oP oR oU S' P' Hd Tr Tx told pasts' runs typed spot frm reas caus ords ordr ++ w_gr cI cC nw aN gN ++ w_gr cI cC sp aS gS') ++ (w_gr cI cC yl al gl ++ w_gr cI cC ys as_ gs ++ w_gr cI cC yt at_ gt ++ w_gr cI cC yo ao go)) := hD
  rcases hc with ⟨q1, q2, q3, q4, q5, q6, h7⟩ | ⟨q1, q2, q3, q4, q5, q6, h7⟩
  · obtain rfl : nw' = nw := q1
    obtain rfl : sp' = sp := q2
    obtain rfl : yl' = yl := q3
    obtain rfl : ys' = ys := q4
    obtain rfl : yt' = yt := q5
    obtain rfl : yo' = yo := q6
    exact ⟨aN, aS, al, as_, at_, ao, nw', sp', yl', ys', yt', yo', yn', sg, oL, oA, oC, oF, oS, oD, oP, oR, oU, S', P', Hd, Tr, Tx, told, pasts', runs, typed, spot, frm, reas, caus, ords, ordr, gN, gS', gl, gs, gt, go, h7, hP, hD, hS⟩
  · obtain rfl : nw' = sp := q1
    obtain rfl : sp' = yo := q2
    obtain rfl : yl' = nw := q3
    obtain rfl : ys' = yl := q4
    obtain rfl : yt' = ys := q5
    obtain rfl : yo' = yt := q6
    exact ⟨aS, ao, aN, al, as_, at_, nw', sp', yl', ys', yt', yo', yn', sg, oL, oA, oC, oF, oS, oD, oP, oR, oU, S', P', Hd, Tr, Tx, told, pasts', runs, typed, spot, frm, reas, caus, ords, ordr, gS', go, gN, gl, gs, gt, h7, vp_perm (pm_chg _ _ _ _ _ _ _) hP, vd_perm (pm_chg _ _ _ _ _ _ _) hD, hS⟩
set_option maxHeartbeats 8000000 in
set_option maxRecDepth 100000 in
theorem ls_correct {t0 t1 t2 t3 B : Nat} {mb : Nat → Nat} {H : Heap} {locs : List Loc} (hLX : LX p m c s b L xs D cI cC) (j : Nat) (hi : 4 * j + 4 ≤ L) (hB : B + 400000 < 2 ^ 28) (hI : INV D cI cC s B t0 t1 t2 t3 mb H locs) (ls : Array Slot) (hl : lv_has ls 4 [(3, .int (nI (4 * j))), (0, .ref b), (1, .ref t0), (2, .ref (mb 0))]) (kk : ∀ (H : Heap) (locs : List Loc), INV D cI cC s (B + 90000) t0 t1 t2 t3 mb H locs → ∀ ls : Array Slot, lv_has ls 4 [(3, .int (nI (4 * j))), (0, .ref b), (1, .ref t0), (2, .ref (mb 0))] → W p l e room_1 s m #[Value.ref b] below meth c H locs 600000 7302250 (lw_Z below #[Value.ref b] s) (F0 m 739 ls [])) : W p l e room_1 s m #[Value.ref b] below meth c H locs 600000 7302250 (lw_Z below #[Value.ref b] s) (F0 m 288 ls []) := by
  obtain ⟨aN, aS, al, as_, at_, ao, nw, sp, yl, ys, yt, yo, yn, sg, oL, oA, oC, oF, oS, oD, oP, oR, oU, S, P, Hd, Tr, Tx, told, pasts, runs, typed, spot, frm, reas, caus, ords, ordr, gN, gS, gl, gs, gt, go, hSY, hP, hD, hS⟩ := hI
  obtain ⟨⟨r1, nw', sp', yl', ys', yt', yo', yn', gS'⟩, ⟨r2, S', P', pasts'⟩, e1, e2, he, hc⟩ := st_correct (nw := nw) (sp := sp) (yl := yl) (ys := ys) (yt := yt) (yo := yo) (gS := gS) hSY (by omega) (xs (4 * j + 1))
  refine lc_correct t0 t1 t2 t3 mb aN aS nw sp yl ys yt yo yn sg oL oA oC oF oS oD oP oR oU S P Hd Tr Tx told pasts runs typed spot frm reas caus ords ordr gN gS (w_gr cI cC yl al gl ++ w_gr cI cC ys as_ gs ++ w_gr cI cC yt at_ gt ++ w_gr cI cC yo ao go) hLX (4 * j) hi _ e1 _ e2 he H locs hP hD hS ls hl (fun H locs hP hD hS ls hl => kk H locs ?_ ls hl)
  have hP : va_P D vwCl ((hd_law cI cC t0 t1 t2 t3 mb nw' sp' yl' ys' yt' yo' yn' sg oL oA oC oF oS oD oP oR oU S' P' Hd Tr Tx told pasts' runs typed spot frm reas caus ords ordr ++ w_gr cI cC nw aN gN ++ w_gr cI cC sp aS gS') ++ (w_gr cI cC yl al gl ++ w_gr cI cC ys as_ gs ++ w_gr cI cC yt at_ gt ++ w_gr cI cC yo ao go)) H := hP
  have hD : va_D (fun q : Nat => s.heap.size ≤ q) ((hd_law cI cC t0 t1 t2 t3 mb nw' sp' yl' ys' yt' yo' yn' sg oL oA oC oF oS oD oP oR oU S' P' Hd Tr Tx told pasts' runs typed spot frm reas caus ords ordr ++ w_gr cI cC nw aN gN ++ w_gr cI cC sp aS gS') ++ (w_gr cI cC yl al gl ++ w_gr cI cC ys as_ gs ++ w_gr cI cC yt at_ gt ++ w_gr cI cC yo ao go)) := hD
  rcases hc with ⟨q1, q2, q3, q4, q5, q6, h7⟩ | ⟨q1, q2, q3, q4, q5, q6, h7⟩
  · obtain rfl : nw' = nw := q1
    obtain rfl : sp' = sp := q2
    obtain rfl : yl' = yl := q3
    obtain rfl : ys' = ys := q4
    obtain rfl : yt' = yt := q5
    obtain rfl : yo' = yo := q6
    exact ⟨aN, aS, al, as_, at_, ao, nw', sp', yl', ys', yt', yo', yn', sg, oL, oA, oC, oF, oS, oD, oP, oR, oU, S', P', Hd, Tr, Tx, told, pasts', runs, typed, spot, frm, reas, caus, ords, ordr, gN, gS', gl, gs, gt, go, h7, hP, hD, hS⟩
  · obtain rfl : nw' = sp := q1
    obtain rfl : sp' = yo := q2
    obtain rfl : yl' = nw := q3
    obtain rfl : ys' = yl := q4
    obtain rfl : yt' = ys := q5
    obtain rfl : yo' = yt := q6
    exact ⟨aS, ao, aN, al, as_, at_, nw', sp', yl', ys', yt', yo', yn', sg, oL, oA, oC, oF, oS, oD, oP, oR, oU, S', P', Hd, Tr, Tx, told, pasts', runs, typed, spot, frm, reas, caus, ords, ordr, gS', go, gN, gl, gs, gt, h7, vp_perm (pm_chg _ _ _ _ _ _ _) hP, vd_perm (pm_chg _ _ _ _ _ _ _) hD, hS⟩
set_option maxHeartbeats 8000000 in
set_option maxRecDepth 100000 in
theorem ls_set {t0 t1 t2 t3 B : Nat} {mb : Nat → Nat} {H : Heap} {locs : List Loc} (hLX : LX p m c s b L xs D cI cC) (j : Nat) (hi : 4 * j + 4 ≤ L) (hB : B + 400000 < 2 ^ 28) (hI : INV D cI cC s B t0 t1 t2 t3 mb H locs) (ls : Array Slot) (hl : lv_has ls 4 [(3, .int (nI (4 * j))), (0, .ref b), (1, .ref t0), (2, .ref (mb 0))]) (kk : ∀ (H : Heap) (locs : List Loc), INV D cI cC s (B + 90000) t0 t1 t2 t3 mb H locs → ∀ ls : Array Slot, lv_has ls 4 [(3, .int (nI (4 * j))), (0, .ref b), (1, .ref t0), (2, .ref (mb 0))] → W p l e room_1 s m #[Value.ref b] below meth c H locs 600000 7302250 (lw_Z below #[Value.ref b] s) (F0 m 739 ls [])) : W p l e room_1 s m #[Value.ref b] below meth c H locs 600000 7302250 (lw_Z below #[Value.ref b] s) (F0 m 311 ls []) := by
  obtain ⟨aN, aS, al, as_, at_, ao, nw, sp, yl, ys, yt, yo, yn, sg, oL, oA, oC, oF, oS, oD, oP, oR, oU, S, P, Hd, Tr, Tx, told, pasts, runs, typed, spot, frm, reas, caus, ords, ordr, gN, gS, gl, gs, gt, go, hSY, hP, hD, hS⟩ := hI
  obtain ⟨⟨r1, nw', sp', yl', ys', yt', yo', yn', gS'⟩, ⟨r2, S', P', pasts'⟩, e1, e2, he, hc⟩ := st_set (nw := nw) (sp := sp) (yl := yl) (ys := ys) (yt := yt) (yo := yo) (gS := gS) hSY (by omega) (xs (4 * j + 1)) (xs (4 * j + 2))
  refine lc_set t0 t1 t2 t3 mb aN aS nw sp yl ys yt yo yn sg oL oA oC oF oS oD oP oR oU S P Hd Tr Tx told pasts runs typed spot frm reas caus ords ordr gN gS (w_gr cI cC yl al gl ++ w_gr cI cC ys as_ gs ++ w_gr cI cC yt at_ gt ++ w_gr cI cC yo ao go) hLX (4 * j) hi _ e1 _ e2 he H locs hP hD hS ls hl (fun H locs hP hD hS ls hl => kk H locs ?_ ls hl)
  have hP : va_P D vwCl ((hd_law cI cC t0 t1 t2 t3 mb nw' sp' yl' ys' yt' yo' yn' sg oL oA oC oF oS oD oP oR oU S' P' Hd Tr Tx told pasts' runs typed spot frm reas caus ords ordr ++ w_gr cI cC nw aN gN ++ w_gr cI cC sp aS gS') ++ (w_gr cI cC yl al gl ++ w_gr cI cC ys as_ gs ++ w_gr cI cC yt at_ gt ++ w_gr cI cC yo ao go)) H := hP
  have hD : va_D (fun q : Nat => s.heap.size ≤ q) ((hd_law cI cC t0 t1 t2 t3 mb nw' sp' yl' ys' yt' yo' yn' sg oL oA oC oF oS oD oP oR oU S' P' Hd Tr Tx told pasts' runs typed spot frm reas caus ords ordr ++ w_gr cI cC nw aN gN ++ w_gr cI cC sp aS gS') ++ (w_gr cI cC yl al gl ++ w_gr cI cC ys as_ gs ++ w_gr cI cC yt at_ gt ++ w_gr cI cC yo ao go)) := hD
  rcases hc with ⟨q1, q2, q3, q4, q5, q6, h7⟩ | ⟨q1, q2, q3, q4, q5, q6, h7⟩
  · obtain rfl : nw' = nw := q1
    obtain rfl : sp' = sp := q2
    obtain rfl : yl' = yl := q3
    obtain rfl : ys' = ys := q4
    obtain rfl : yt' = yt := q5
    obtain rfl : yo' = yo := q6
    exact ⟨aN, aS, al, as_, at_, ao, nw', sp', yl', ys', yt', yo', yn', sg, oL, oA, oC, oF, oS, oD, oP, oR, oU, S', P', Hd, Tr, Tx, told, pasts', runs, typed, spot, frm, reas, caus, ords, ordr, gN, gS', gl, gs, gt, go, h7, hP, hD, hS⟩
  · obtain rfl : nw' = sp := q1
    obtain rfl : sp' = yo := q2
    obtain rfl : yl' = nw := q3
    obtain rfl : ys' = yl := q4
    obtain rfl : yt' = ys := q5
    obtain rfl : yo' = yt := q6
    exact ⟨aS, ao, aN, al, as_, at_, nw', sp', yl', ys', yt', yo', yn', sg, oL, oA, oC, oF, oS, oD, oP, oR, oU, S', P', Hd, Tr, Tx, told, pasts', runs, typed, spot, frm, reas, caus, ords, ordr, gS', go, gN, gl, gs, gt, h7, vp_perm (pm_chg _ _ _ _ _ _ _) hP, vd_perm (pm_chg _ _ _ _ _ _ _) hD, hS⟩
set_option maxHeartbeats 8000000 in
set_option maxRecDepth 100000 in
theorem ls_burrOf {t0 t1 t2 t3 B : Nat} {mb : Nat → Nat} {H : Heap} {locs : List Loc} (hLX : LX p m c s b L xs D cI cC) (j : Nat) (hi : 4 * j + 4 ≤ L) (hB : B + 400000 < 2 ^ 28) (hI : INV D cI cC s B t0 t1 t2 t3 mb H locs) (ls : Array Slot) (hl : lv_has ls 4 [(3, .int (nI (4 * j))), (0, .ref b), (1, .ref t0), (2, .ref (mb 0))]) (kk : ∀ (H : Heap) (locs : List Loc), INV D cI cC s (B + 90000) t0 t1 t2 t3 mb H locs → ∀ ls : Array Slot, lv_has ls 4 [(3, .int (nI (4 * j))), (0, .ref b), (1, .ref t0), (2, .ref (mb 0))] → W p l e room_1 s m #[Value.ref b] below meth c H locs 600000 7302250 (lw_Z below #[Value.ref b] s) (F0 m 739 ls [])) : W p l e room_1 s m #[Value.ref b] below meth c H locs 600000 7302250 (lw_Z below #[Value.ref b] s) (F0 m 344 ls []) := by
  obtain ⟨aN, aS, al, as_, at_, ao, nw, sp, yl, ys, yt, yo, yn, sg, oL, oA, oC, oF, oS, oD, oP, oR, oU, S, P, Hd, Tr, Tx, told, pasts, runs, typed, spot, frm, reas, caus, ords, ordr, gN, gS, gl, gs, gt, go, hSY, hP, hD, hS⟩ := hI
  obtain ⟨r, e1, e2⟩ := st_burrOf (nw := nw) hSY (xs (4 * j + 1)) (xs (4 * j + 2))
  refine lc_burrOf t0 t1 t2 t3 mb aN aS nw sp yl ys yt yo yn sg oL oA oC oF oS oD oP oR oU S P Hd Tr Tx told pasts runs typed spot frm reas caus ords ordr gN gS (w_gr cI cC yl al gl ++ w_gr cI cC ys as_ gs ++ w_gr cI cC yt at_ gt ++ w_gr cI cC yo ao go) hLX (4 * j) hi _ e1 _ e2 rfl H locs hP hD hS ls hl (fun H locs hP hD hS ls hl => kk H locs ?_ ls hl)
  exact ⟨aN, aS, al, as_, at_, ao, nw, sp, yl, ys, yt, yo, yn, sg, oL, oA, oC, oF, oS, oD, oP, oR, oU, S, P, Hd, Tr, Tx, told, pasts, runs, typed, spot, frm, reas, caus, ords, ordr, gN, gS, gl, gs, gt, go, (SY.up hSY (by omega)), hP, hD, hS⟩
set_option maxHeartbeats 8000000 in
set_option maxRecDepth 100000 in
theorem ls_lotOf {t0 t1 t2 t3 B : Nat} {mb : Nat → Nat} {H : Heap} {locs : List Loc} (hLX : LX p m c s b L xs D cI cC) (j : Nat) (hi : 4 * j + 4 ≤ L) (hB : B + 400000 < 2 ^ 28) (hI : INV D cI cC s B t0 t1 t2 t3 mb H locs) (ls : Array Slot) (hl : lv_has ls 4 [(3, .int (nI (4 * j))), (0, .ref b), (1, .ref t0), (2, .ref (mb 0))]) (kk : ∀ (H : Heap) (locs : List Loc), INV D cI cC s (B + 90000) t0 t1 t2 t3 mb H locs → ∀ ls : Array Slot, lv_has ls 4 [(3, .int (nI (4 * j))), (0, .ref b), (1, .ref t0), (2, .ref (mb 0))] → W p l e room_1 s m #[Value.ref b] below meth c H locs 600000 7302250 (lw_Z below #[Value.ref b] s) (F0 m 739 ls [])) : W p l e room_1 s m #[Value.ref b] below meth c H locs 600000 7302250 (lw_Z below #[Value.ref b] s) (F0 m 377 ls []) := by
  obtain ⟨aN, aS, al, as_, at_, ao, nw, sp, yl, ys, yt, yo, yn, sg, oL, oA, oC, oF, oS, oD, oP, oR, oU, S, P, Hd, Tr, Tx, told, pasts, runs, typed, spot, frm, reas, caus, ords, ordr, gN, gS, gl, gs, gt, go, hSY, hP, hD, hS⟩ := hI
  obtain ⟨r, e1, e2⟩ := st_lotOf (nw := nw) hSY (xs (4 * j + 1)) (xs (4 * j + 2))
  refine lc_lotOf t0 t1 t2 t3 mb aN aS nw sp yl ys yt yo yn sg oL oA oC oF oS oD oP oR oU S P Hd Tr Tx told pasts runs typed spot frm reas caus ords ordr gN gS (w_gr cI cC yl al gl ++ w_gr cI cC ys as_ gs ++ w_gr cI cC yt at_ gt ++ w_gr cI cC yo ao go) hLX (4 * j) hi _ e1 _ e2 rfl H locs hP hD hS ls hl (fun H locs hP hD hS ls hl => kk H locs ?_ ls hl)
  exact ⟨aN, aS, al, as_, at_, ao, nw, sp, yl, ys, yt, yo, yn, sg, oL, oA, oC, oF, oS, oD, oP, oR, oU, S, P, Hd, Tr, Tx, told, pasts, runs, typed, spot, frm, reas, caus, ords, ordr, gN, gS, gl, gs, gt, go, (SY.up hSY (by omega)), hP, hD, hS⟩
set_option maxHeartbeats 8000000 in
set_option maxRecDepth 100000 in
theorem ls_portionOf {t0 t1 t2 t3 B : Nat} {mb : Nat → Nat} {H : Heap} {locs : List Loc} (hLX : LX p m c s b L xs D cI cC) (j : Nat) (hi : 4 * j + 4 ≤ L) (hB : B + 400000 < 2 ^ 28) (hI : INV D cI cC s B t0 t1 t2 t3 mb H locs) (ls : Array Slot) (hl : lv_has ls 4 [(3, .int (nI (4 * j))), (0, .ref b), (1, .ref t0), (2, .ref (mb 0))]) (kk : ∀ (H : Heap) (locs : List Loc), INV D cI cC s (B + 90000) t0 t1 t2 t3 mb H locs → ∀ ls : Array Slot, lv_has ls 4 [(3, .int (nI (4 * j))), (0, .ref b), (1, .ref t0), (2, .ref (mb 0))] → W p l e room_1 s m #[Value.ref b] below meth c H locs 600000 7302250 (lw_Z below #[Value.ref b] s) (F0 m 739 ls [])) : W p l e room_1 s m #[Value.ref b] below meth c H locs 600000 7302250 (lw_Z below #[Value.ref b] s) (F0 m 410 ls []) := by
  obtain ⟨aN, aS, al, as_, at_, ao, nw, sp, yl, ys, yt, yo, yn, sg, oL, oA, oC, oF, oS, oD, oP, oR, oU, S, P, Hd, Tr, Tx, told, pasts, runs, typed, spot, frm, reas, caus, ords, ordr, gN, gS, gl, gs, gt, go, hSY, hP, hD, hS⟩ := hI
  obtain ⟨r, e1, e2⟩ := st_portionOf (nw := nw) hSY (xs (4 * j + 1)) (xs (4 * j + 2)) (xs (4 * j + 3))
  refine lc_portionOf t0 t1 t2 t3 mb aN aS nw sp yl ys yt yo yn sg oL oA oC oF oS oD oP oR oU S P Hd Tr Tx told pasts runs typed spot frm reas caus ords ordr gN gS (w_gr cI cC yl al gl ++ w_gr cI cC ys as_ gs ++ w_gr cI cC yt at_ gt ++ w_gr cI cC yo ao go) hLX (4 * j) hi _ e1 _ e2 rfl H locs hP hD hS ls hl (fun H locs hP hD hS ls hl => kk H locs ?_ ls hl)
  exact ⟨aN, aS, al, as_, at_, ao, nw, sp, yl, ys, yt, yo, yn, sg, oL, oA, oC, oF, oS, oD, oP, oR, oU, S, P, Hd, Tr, Tx, told, pasts, runs, typed, spot, frm, reas, caus, ords, ordr, gN, gS, gl, gs, gt, go, (SY.up hSY (by omega)), hP, hD, hS⟩
set_option maxHeartbeats 8000000 in
set_option maxRecDepth 100000 in
theorem ls_shotOf {t0 t1 t2 t3 B : Nat} {mb : Nat → Nat} {H : Heap} {locs : List Loc} (hLX : LX p m c s b L xs D cI cC) (j : Nat) (hi : 4 * j + 4 ≤ L) (hB : B + 400000 < 2 ^ 28) (hI : INV D cI cC s B t0 t1 t2 t3 mb H locs) (ls : Array Slot) (hl : lv_has ls 4 [(3, .int (nI (4 * j))), (0, .ref b), (1, .ref t0), (2, .ref (mb 0))]) (kk : ∀ (H : Heap) (locs : List Loc), INV D cI cC s (B + 90000) t0 t1 t2 t3 mb H locs → ∀ ls : Array Slot, lv_has ls 4 [(3, .int (nI (4 * j))), (0, .ref b), (1, .ref t0), (2, .ref (mb 0))] → W p l e room_1 s m #[Value.ref b] below meth c H locs 600000 7302250 (lw_Z below #[Value.ref b] s) (F0 m 739 ls [])) : W p l e room_1 s m #[Value.ref b] below meth c H locs 600000 7302250 (lw_Z below #[Value.ref b] s) (F0 m 453 ls []) := by
  obtain ⟨aN, aS, al, as_, at_, ao, nw, sp, yl, ys, yt, yo, yn, sg, oL, oA, oC, oF, oS, oD, oP, oR, oU, S, P, Hd, Tr, Tx, told, pasts, runs, typed, spot, frm, reas, caus, ords, ordr, gN, gS, gl, gs, gt, go, hSY, hP, hD, hS⟩ := hI
  obtain ⟨r, e1, e2⟩ := st_shotOf (nw := nw) hSY (xs (4 * j + 1)) (xs (4 * j + 2))
  refine lc_shotOf t0 t1 t2 t3 mb aN aS nw sp yl ys yt yo yn sg oL oA oC oF oS oD oP oR oU S P Hd Tr Tx told pasts runs typed spot frm reas caus ords ordr gN gS (w_gr cI cC yl al gl ++ w_gr cI cC ys as_ gs ++ w_gr cI cC yt at_ gt ++ w_gr cI cC yo ao go) hLX (4 * j) hi _ e1 _ e2 rfl H locs hP hD hS ls hl (fun H locs hP hD hS ls hl => kk H locs ?_ ls hl)
  exact ⟨aN, aS, al, as_, at_, ao, nw, sp, yl, ys, yt, yo, yn, sg, oL, oA, oC, oF, oS, oD, oP, oR, oU, S, P, Hd, Tr, Tx, told, pasts, runs, typed, spot, frm, reas, caus, ords, ordr, gN, gS, gl, gs, gt, go, (SY.up hSY (by omega)), hP, hD, hS⟩
set_option maxHeartbeats 8000000 in
set_option maxRecDepth 100000 in
theorem ls_best {t0 t1 t2 t3 B : Nat} {mb : Nat → Nat} {H : Heap} {locs : List Loc} (hLX : LX p m c s b L xs D cI cC) (j : Nat) (hi : 4 * j + 4 ≤ L) (hB : B + 400000 < 2 ^ 28) (hI : INV D cI cC s B t0 t1 t2 t3 mb H locs) (ls : Array Slot) (hl : lv_has ls 4 [(3, .int (nI (4 * j))), (0, .ref b), (1, .ref t0), (2, .ref (mb 0))]) (kk : ∀ (H : Heap) (locs : List Loc), INV D cI cC s (B + 90000) t0 t1 t2 t3 mb H locs → ∀ ls : Array Slot, lv_has ls 4 [(3, .int (nI (4 * j))), (0, .ref b), (1, .ref t0), (2, .ref (mb 0))] → W p l e room_1 s m #[Value.ref b] below meth c H locs 600000 7302250 (lw_Z below #[Value.ref b] s) (F0 m 739 ls [])) : W p l e room_1 s m #[Value.ref b] below meth c H locs 600000 7302250 (lw_Z below #[Value.ref b] s) (F0 m 486 ls []) := by
  obtain ⟨aN, aS, al, as_, at_, ao, nw, sp, yl, ys, yt, yo, yn, sg, oL, oA, oC, oF, oS, oD, oP, oR, oU, S, P, Hd, Tr, Tx, told, pasts, runs, typed, spot, frm, reas, caus, ords, ordr, gN, gS, gl, gs, gt, go, hSY, hP, hD, hS⟩ := hI
  obtain ⟨r, e1, e2⟩ := st_best (nw := nw) hSY (xs (4 * j + 1))
  refine lc_best t0 t1 t2 t3 mb aN aS nw sp yl ys yt yo yn sg oL oA oC oF oS oD oP oR oU S P Hd Tr Tx told pasts runs typed spot frm reas caus ords ordr gN gS (w_gr cI cC yl al gl ++ w_gr cI cC ys as_ gs ++ w_gr cI cC yt at_ gt ++ w_gr cI cC yo ao go) hLX (4 * j) hi _ e1 _ e2 rfl H locs hP hD hS ls hl (fun H locs hP hD hS ls hl => kk H locs ?_ ls hl)
  exact ⟨aN, aS, al, as_, at_, ao, nw, sp, yl, ys, yt, yo, yn, sg, oL, oA, oC, oF, oS, oD, oP, oR, oU, S, P, Hd, Tr, Tx, told, pasts, runs, typed, spot, frm, reas, caus, ords, ordr, gN, gS, gl, gs, gt, go, (SY.up hSY (by omega)), hP, hD, hS⟩
set_option maxHeartbeats 8000000 in
set_option maxRecDepth 100000 in
theorem ls_wouldTake {t0 t1 t2 t3 B : Nat} {mb : Nat → Nat} {H : Heap} {locs : List Loc} (hLX : LX p m c s b L xs D cI cC) (j : Nat) (hi : 4 * j + 4 ≤ L) (hB : B + 400000 < 2 ^ 28) (hI : INV D cI cC s B t0 t1 t2 t3 mb H locs) (ls : Array Slot) (hl : lv_has ls 4 [(3, .int (nI (4 * j))), (0, .ref b), (1, .ref t0), (2, .ref (mb 0))]) (kk : ∀ (H : Heap) (locs : List Loc), INV D cI cC s (B + 90000) t0 t1 t2 t3 mb H locs → ∀ ls : Array Slot, lv_has ls 4 [(3, .int (nI (4 * j))), (0, .ref b), (1, .ref t0), (2, .ref (mb 0))] → W p l e room_1 s m #[Value.ref b] below meth c H locs 600000 7302250 (lw_Z below #[Value.ref b] s) (F0 m 739 ls [])) : W p l e room_1 s m #[Value.ref b] below meth c H locs 600000 7302250 (lw_Z below #[Value.ref b] s) (F0 m 509 ls []) := by
  obtain ⟨aN, aS, al, as_, at_, ao, nw, sp, yl, ys, yt, yo, yn, sg, oL, oA, oC, oF, oS, oD, oP, oR, oU, S, P, Hd, Tr, Tx, told, pasts, runs, typed, spot, frm, reas, caus, ords, ordr, gN, gS, gl, gs, gt, go, hSY, hP, hD, hS⟩ := hI
  obtain ⟨⟨r1, gS'⟩, ⟨r2, S', Tr'⟩, e1, e2, he, hc⟩ := st_would (nw := nw) (sp := sp) (gS := gS) hSY (by omega) Tr (xs (4 * j + 1)) (xs (4 * j + 2))
  refine lc_wouldTake t0 t1 t2 t3 mb aN aS nw sp yl ys yt yo yn sg oL oA oC oF oS oD oP oR oU S P Hd Tr Tx told pasts runs typed spot frm reas caus ords ordr gN gS (w_gr cI cC yl al gl ++ w_gr cI cC ys as_ gs ++ w_gr cI cC yt at_ gt ++ w_gr cI cC yo ao go) hLX (4 * j) hi _ e1 _ e2 he H locs hP hD hS ls hl (fun H locs hP hD hS ls hl => kk H locs ?_ ls hl)
  have hP : va_P D vwCl ((hd_law cI cC t0 t1 t2 t3 mb nw sp yl ys yt yo yn sg oL oA oC oF oS oD oP oR oU S' P Hd Tr' Tx told pasts runs typed spot frm reas caus ords ordr ++ w_gr cI cC nw aN gN ++ w_gr cI cC sp aS gS') ++ (w_gr cI cC yl al gl ++ w_gr cI cC ys as_ gs ++ w_gr cI cC yt at_ gt ++ w_gr cI cC yo ao go)) H := hP
  have hD : va_D (fun q : Nat => s.heap.size ≤ q) ((hd_law cI cC t0 t1 t2 t3 mb nw sp yl ys yt yo yn sg oL oA oC oF oS oD oP oR oU S' P Hd Tr' Tx told pasts runs typed spot frm reas caus ords ordr ++ w_gr cI cC nw aN gN ++ w_gr cI cC sp aS gS') ++ (w_gr cI cC yl al gl ++ w_gr cI cC ys as_ gs ++ w_gr cI cC yt at_ gt ++ w_gr cI cC yo ao go)) := hD
  exact ⟨aN, aS, al, as_, at_, ao, nw, sp, yl, ys, yt, yo, yn, sg, oL, oA, oC, oF, oS, oD, oP, oR, oU, S', P, Hd, Tr', Tx, told, pasts, runs, typed, spot, frm, reas, caus, ords, ordr, gN, gS', gl, gs, gt, go, (SY.up hc (by omega)), hP, hD, hS⟩
set_option maxHeartbeats 8000000 in
set_option maxRecDepth 100000 in
theorem ls_dialFor {t0 t1 t2 t3 B : Nat} {mb : Nat → Nat} {H : Heap} {locs : List Loc} (hLX : LX p m c s b L xs D cI cC) (j : Nat) (hi : 4 * j + 4 ≤ L) (hB : B + 400000 < 2 ^ 28) (hI : INV D cI cC s B t0 t1 t2 t3 mb H locs) (ls : Array Slot) (hl : lv_has ls 4 [(3, .int (nI (4 * j))), (0, .ref b), (1, .ref t0), (2, .ref (mb 0))]) (kk : ∀ (H : Heap) (locs : List Loc), INV D cI cC s (B + 90000) t0 t1 t2 t3 mb H locs → ∀ ls : Array Slot, lv_has ls 4 [(3, .int (nI (4 * j))), (0, .ref b), (1, .ref t0), (2, .ref (mb 0))] → W p l e room_1 s m #[Value.ref b] below meth c H locs 600000 7302250 (lw_Z below #[Value.ref b] s) (F0 m 739 ls [])) : W p l e room_1 s m #[Value.ref b] below meth c H locs 600000 7302250 (lw_Z below #[Value.ref b] s) (F0 m 542 ls []) := by
  obtain ⟨aN, aS, al, as_, at_, ao, nw, sp, yl, ys, yt, yo, yn, sg, oL, oA, oC, oF, oS, oD, oP, oR, oU, S, P, Hd, Tr, Tx, told, pasts, runs, typed, spot, frm, reas, caus, ords, ordr, gN, gS, gl, gs, gt, go, hSY, hP, hD, hS⟩ := hI
  obtain ⟨r, e1, e2⟩ := st_dialFor (nw := nw) hSY (xs (4 * j + 1)) (xs (4 * j + 2))
  refine lc_dialFor t0 t1 t2 t3 mb aN aS nw sp yl ys yt yo yn sg oL oA oC oF oS oD oP oR oU S P Hd Tr Tx told pasts runs typed spot frm reas caus ords ordr gN gS (w_gr cI cC yl al gl ++ w_gr cI cC ys as_ gs ++ w_gr cI cC yt at_ gt ++ w_gr cI cC yo ao go) hLX (4 * j) hi _ e1 _ e2 rfl H locs hP hD hS ls hl (fun H locs hP hD hS ls hl => kk H locs ?_ ls hl)
  exact ⟨aN, aS, al, as_, at_, ao, nw, sp, yl, ys, yt, yo, yn, sg, oL, oA, oC, oF, oS, oD, oP, oR, oU, S, P, Hd, Tr, Tx, told, pasts, runs, typed, spot, frm, reas, caus, ords, ordr, gN, gS, gl, gs, gt, go, (SY.up hSY (by omega)), hP, hD, hS⟩
set_option maxHeartbeats 8000000 in
set_option maxRecDepth 100000 in
theorem ls_stale {t0 t1 t2 t3 B : Nat} {mb : Nat → Nat} {H : Heap} {locs : List Loc} (hLX : LX p m c s b L xs D cI cC) (j : Nat) (hi : 4 * j + 4 ≤ L) (hB : B + 400000 < 2 ^ 28) (hI : INV D cI cC s B t0 t1 t2 t3 mb H locs) (ls : Array Slot) (hl : lv_has ls 4 [(3, .int (nI (4 * j))), (0, .ref b), (1, .ref t0), (2, .ref (mb 0))]) (kk : ∀ (H : Heap) (locs : List Loc), INV D cI cC s (B + 90000) t0 t1 t2 t3 mb H locs → ∀ ls : Array Slot, lv_has ls 4 [(3, .int (nI (4 * j))), (0, .ref b), (1, .ref t0), (2, .ref (mb 0))] → W p l e room_1 s m #[Value.ref b] below meth c H locs 600000 7302250 (lw_Z below #[Value.ref b] s) (F0 m 739 ls [])) : W p l e room_1 s m #[Value.ref b] below meth c H locs 600000 7302250 (lw_Z below #[Value.ref b] s) (F0 m 575 ls []) := by
  obtain ⟨aN, aS, al, as_, at_, ao, nw, sp, yl, ys, yt, yo, yn, sg, oL, oA, oC, oF, oS, oD, oP, oR, oU, S, P, Hd, Tr, Tx, told, pasts, runs, typed, spot, frm, reas, caus, ords, ordr, gN, gS, gl, gs, gt, go, hSY, hP, hD, hS⟩ := hI
  obtain ⟨r, e1, e2⟩ := st_stale (nw := nw) hSY (xs (4 * j + 1))
  refine lc_stale t0 t1 t2 t3 mb aN aS nw sp yl ys yt yo yn sg oL oA oC oF oS oD oP oR oU S P Hd Tr Tx told pasts runs typed spot frm reas caus ords ordr gN gS (w_gr cI cC yl al gl ++ w_gr cI cC ys as_ gs ++ w_gr cI cC yt at_ gt ++ w_gr cI cC yo ao go) hLX (4 * j) hi _ e1 _ e2 rfl H locs hP hD hS ls hl (fun H locs hP hD hS ls hl => kk H locs ?_ ls hl)
  exact ⟨aN, aS, al, as_, at_, ao, nw, sp, yl, ys, yt, yo, yn, sg, oL, oA, oC, oF, oS, oD, oP, oR, oU, S, P, Hd, Tr, Tx, told, pasts, runs, typed, spot, frm, reas, caus, ords, ordr, gN, gS, gl, gs, gt, go, (SY.up hSY (by omega)), hP, hD, hS⟩
set_option maxHeartbeats 8000000 in
set_option maxRecDepth 100000 in
theorem ls_coolAfter {t0 t1 t2 t3 B : Nat} {mb : Nat → Nat} {H : Heap} {locs : List Loc} (hLX : LX p m c s b L xs D cI cC) (j : Nat) (hi : 4 * j + 4 ≤ L) (hB : B + 400000 < 2 ^ 28) (hI : INV D cI cC s B t0 t1 t2 t3 mb H locs) (ls : Array Slot) (hl : lv_has ls 4 [(3, .int (nI (4 * j))), (0, .ref b), (1, .ref t0), (2, .ref (mb 0))]) (kk : ∀ (H : Heap) (locs : List Loc), INV D cI cC s (B + 90000) t0 t1 t2 t3 mb H locs → ∀ ls : Array Slot, lv_has ls 4 [(3, .int (nI (4 * j))), (0, .ref b), (1, .ref t0), (2, .ref (mb 0))] → W p l e room_1 s m #[Value.ref b] below meth c H locs 600000 7302250 (lw_Z below #[Value.ref b] s) (F0 m 739 ls [])) : W p l e room_1 s m #[Value.ref b] below meth c H locs 600000 7302250 (lw_Z below #[Value.ref b] s) (F0 m 598 ls []) := by
  obtain ⟨aN, aS, al, as_, at_, ao, nw, sp, yl, ys, yt, yo, yn, sg, oL, oA, oC, oF, oS, oD, oP, oR, oU, S, P, Hd, Tr, Tx, told, pasts, runs, typed, spot, frm, reas, caus, ords, ordr, gN, gS, gl, gs, gt, go, hSY, hP, hD, hS⟩ := hI
  obtain ⟨r, e1, e2⟩ := st_coolAfter (nw := nw) hSY (by omega) (xs (4 * j + 1)) (xs (4 * j + 2))
  refine lc_coolAfter t0 t1 t2 t3 mb aN aS nw sp yl ys yt yo yn sg oL oA oC oF oS oD oP oR oU S P Hd Tr Tx told pasts runs typed spot frm reas caus ords ordr gN gS (w_gr cI cC yl al gl ++ w_gr cI cC ys as_ gs ++ w_gr cI cC yt at_ gt ++ w_gr cI cC yo ao go) hLX (4 * j) hi _ e1 _ e2 rfl H locs hP hD hS ls hl (fun H locs hP hD hS ls hl => kk H locs ?_ ls hl)
  exact ⟨aN, aS, al, as_, at_, ao, nw, sp, yl, ys, yt, yo, yn, sg, oL, oA, oC, oF, oS, oD, oP, oR, oU, S, P, Hd, Tr, Tx, told, pasts, runs, typed, spot, frm, reas, caus, ords, ordr, gN, gS, gl, gs, gt, go, (SY.up hSY (by omega)), hP, hD, hS⟩
set_option maxHeartbeats 8000000 in
set_option maxRecDepth 100000 in
theorem ls_count {t0 t1 t2 t3 B : Nat} {mb : Nat → Nat} {H : Heap} {locs : List Loc} (hLX : LX p m c s b L xs D cI cC) (j : Nat) (hi : 4 * j + 4 ≤ L) (hB : B + 400000 < 2 ^ 28) (hI : INV D cI cC s B t0 t1 t2 t3 mb H locs) (ls : Array Slot) (hl : lv_has ls 4 [(3, .int (nI (4 * j))), (0, .ref b), (1, .ref t0), (2, .ref (mb 0))]) (kk : ∀ (H : Heap) (locs : List Loc), INV D cI cC s (B + 90000) t0 t1 t2 t3 mb H locs → ∀ ls : Array Slot, lv_has ls 4 [(3, .int (nI (4 * j))), (0, .ref b), (1, .ref t0), (2, .ref (mb 0))] → W p l e room_1 s m #[Value.ref b] below meth c H locs 600000 7302250 (lw_Z below #[Value.ref b] s) (F0 m 739 ls [])) : W p l e room_1 s m #[Value.ref b] below meth c H locs 600000 7302250 (lw_Z below #[Value.ref b] s) (F0 m 631 ls []) := by
  obtain ⟨aN, aS, al, as_, at_, ao, nw, sp, yl, ys, yt, yo, yn, sg, oL, oA, oC, oF, oS, oD, oP, oR, oU, S, P, Hd, Tr, Tx, told, pasts, runs, typed, spot, frm, reas, caus, ords, ordr, gN, gS, gl, gs, gt, go, hSY, hP, hD, hS⟩ := hI
  obtain ⟨r, e1, e2⟩ := st_count (nw := nw) hSY (xs (4 * j + 1))
  refine lc_count t0 t1 t2 t3 mb aN aS nw sp yl ys yt yo yn sg oL oA oC oF oS oD oP oR oU S P Hd Tr Tx told pasts runs typed spot frm reas caus ords ordr gN gS (w_gr cI cC yl al gl ++ w_gr cI cC ys as_ gs ++ w_gr cI cC yt at_ gt ++ w_gr cI cC yo ao go) hLX (4 * j) hi _ e1 _ e2 rfl H locs hP hD hS ls hl (fun H locs hP hD hS ls hl => kk H locs ?_ ls hl)
  exact ⟨aN, aS, al, as_, at_, ao, nw, sp, yl, ys, yt, yo, yn, sg, oL, oA, oC, oF, oS, oD, oP, oR, oU, S, P, Hd, Tr, Tx, told, pasts, runs, typed, spot, frm, reas, caus, ords, ordr, gN, gS, gl, gs, gt, go, (SY.up hSY (by omega)), hP, hD, hS⟩
set_option maxHeartbeats 8000000 in
set_option maxRecDepth 100000 in
theorem ls_undo {t0 t1 t2 t3 B : Nat} {mb : Nat → Nat} {H : Heap} {locs : List Loc} (hLX : LX p m c s b L xs D cI cC) (j : Nat) (hi : 4 * j + 4 ≤ L) (hB : B + 400000 < 2 ^ 28) (hI : INV D cI cC s B t0 t1 t2 t3 mb H locs) (ls : Array Slot) (hl : lv_has ls 4 [(3, .int (nI (4 * j))), (0, .ref b), (1, .ref t0), (2, .ref (mb 0))]) (kk : ∀ (H : Heap) (locs : List Loc), INV D cI cC s (B + 90000) t0 t1 t2 t3 mb H locs → ∀ ls : Array Slot, lv_has ls 4 [(3, .int (nI (4 * j))), (0, .ref b), (1, .ref t0), (2, .ref (mb 0))] → W p l e room_1 s m #[Value.ref b] below meth c H locs 600000 7302250 (lw_Z below #[Value.ref b] s) (F0 m 739 ls [])) : W p l e room_1 s m #[Value.ref b] below meth c H locs 600000 7302250 (lw_Z below #[Value.ref b] s) (F0 m 654 ls []) := by
  obtain ⟨aN, aS, al, as_, at_, ao, nw, sp, yl, ys, yt, yo, yn, sg, oL, oA, oC, oF, oS, oD, oP, oR, oU, S, P, Hd, Tr, Tx, told, pasts, runs, typed, spot, frm, reas, caus, ords, ordr, gN, gS, gl, gs, gt, go, hSY, hP, hD, hS⟩ := hI
  obtain ⟨⟨r1, nw', yl', ys', yt', yo', yn'⟩, ⟨r2, S', pasts'⟩, e1, e2, he, hc⟩ := st_undo (nw := nw) (yl := yl) (ys := ys) (yt := yt) (yo := yo) hSY
  refine lc_undo t0 t1 t2 t3 mb aN aS nw sp yl ys yt yo yn sg oL oA oC oF oS oD oP oR oU S P Hd Tr Tx told pasts runs typed spot frm reas caus ords ordr gN gS (w_gr cI cC yl al gl ++ w_gr cI cC ys as_ gs ++ w_gr cI cC yt at_ gt ++ w_gr cI cC yo ao go) hLX (4 * j) hi _ e1 _ e2 he H locs hP hD hS ls hl (fun H locs hP hD hS ls hl => kk H locs ?_ ls hl)
  have hP : va_P D vwCl ((hd_law cI cC t0 t1 t2 t3 mb nw' sp yl' ys' yt' yo' yn' sg oL oA oC oF oS oD oP oR oU S' P Hd Tr Tx told pasts' runs typed spot frm reas caus ords ordr ++ w_gr cI cC nw aN gN ++ w_gr cI cC sp aS gS) ++ (w_gr cI cC yl al gl ++ w_gr cI cC ys as_ gs ++ w_gr cI cC yt at_ gt ++ w_gr cI cC yo ao go)) H := hP
  have hD : va_D (fun q : Nat => s.heap.size ≤ q) ((hd_law cI cC t0 t1 t2 t3 mb nw' sp yl' ys' yt' yo' yn' sg oL oA oC oF oS oD oP oR oU S' P Hd Tr Tx told pasts' runs typed spot frm reas caus ords ordr ++ w_gr cI cC nw aN gN ++ w_gr cI cC sp aS gS) ++ (w_gr cI cC yl al gl ++ w_gr cI cC ys as_ gs ++ w_gr cI cC yt at_ gt ++ w_gr cI cC yo ao go)) := hD
  rcases hc with ⟨q1, q3, q4, q5, q6, h7⟩ | ⟨q1, q3, q4, q5, q6, h7⟩
  · obtain rfl : nw' = nw := q1
    obtain rfl : yl' = yl := q3
    obtain rfl : ys' = ys := q4
    obtain rfl : yt' = yt := q5
    obtain rfl : yo' = yo := q6
    exact ⟨aN, aS, al, as_, at_, ao, nw', sp, yl', ys', yt', yo', yn', sg, oL, oA, oC, oF, oS, oD, oP, oR, oU, S', P, Hd, Tr, Tx, told, pasts', runs, typed, spot, frm, reas, caus, ords, ordr, gN, gS, gl, gs, gt, go, (SY.up h7 (by omega)), hP, hD, hS⟩
  · obtain rfl : nw' = yl := q1
    obtain rfl : yl' = ys := q3
    obtain rfl : ys' = yt := q4
    obtain rfl : yt' = yo := q5
    obtain rfl : yo' = nw := q6
    exact ⟨al, aS, as_, at_, ao, aN, nw', sp, yl', ys', yt', yo', yn', sg, oL, oA, oC, oF, oS, oD, oP, oR, oU, S', P, Hd, Tr, Tx, told, pasts', runs, typed, spot, frm, reas, caus, ords, ordr, gl, gS, gs, gt, go, gN, (SY.up h7 (by omega)), vp_perm (pm_undo _ _ _ _ _ _ _) hP, vd_perm (pm_undo _ _ _ _ _ _ _) hD, hS⟩
set_option maxHeartbeats 8000000 in
set_option maxRecDepth 100000 in
theorem ls_type {t0 t1 t2 t3 B : Nat} {mb : Nat → Nat} {H : Heap} {locs : List Loc} (hLX : LX p m c s b L xs D cI cC) (j : Nat) (hi : 4 * j + 4 ≤ L) (hB : B + 400000 < 2 ^ 28) (hI : INV D cI cC s B t0 t1 t2 t3 mb H locs) (ls : Array Slot) (hl : lv_has ls 4 [(3, .int (nI (4 * j))), (0, .ref b), (1, .ref t0), (2, .ref (mb 0))]) (kk : ∀ (H : Heap) (locs : List Loc), INV D cI cC s (B + 90000) t0 t1 t2 t3 mb H locs → ∀ ls : Array Slot, lv_has ls 4 [(3, .int (nI (4 * j))), (0, .ref b), (1, .ref t0), (2, .ref (mb 0))] → W p l e room_1 s m #[Value.ref b] below meth c H locs 600000 7302250 (lw_Z below #[Value.ref b] s) (F0 m 739 ls [])) : W p l e room_1 s m #[Value.ref b] below meth c H locs 600000 7302250 (lw_Z below #[Value.ref b] s) (F0 m 667 ls []) := by
  obtain ⟨aN, aS, al, as_, at_, ao, nw, sp, yl, ys, yt, yo, yn, sg, oL, oA, oC, oF, oS, oD, oP, oR, oU, S, P, Hd, Tr, Tx, told, pasts, runs, typed, spot, frm, reas, caus, ords, ordr, gN, gS, gl, gs, gt, go, hSY, hP, hD, hS⟩ := hI
  obtain ⟨⟨r1, sg', oL'⟩, ⟨r2, Tx', typed'⟩, e1, e2, he, hc⟩ := st_type hSY (xs (4 * j + 1))
  refine lc_type t0 t1 t2 t3 mb aN aS nw sp yl ys yt yo yn sg oL oA oC oF oS oD oP oR oU S P Hd Tr Tx told pasts runs typed spot frm reas caus ords ordr gN gS (w_gr cI cC yl al gl ++ w_gr cI cC ys as_ gs ++ w_gr cI cC yt at_ gt ++ w_gr cI cC yo ao go) hLX (4 * j) hi _ e1 _ e2 he H locs hP hD hS ls hl (fun H locs hP hD hS ls hl => kk H locs ?_ ls hl)
  have hP : va_P D vwCl ((hd_law cI cC t0 t1 t2 t3 mb nw sp yl ys yt yo yn sg' oL' oA oC oF oS oD oP oR oU S P Hd Tr Tx' told pasts runs typed' spot frm reas caus ords ordr ++ w_gr cI cC nw aN gN ++ w_gr cI cC sp aS gS) ++ (w_gr cI cC yl al gl ++ w_gr cI cC ys as_ gs ++ w_gr cI cC yt at_ gt ++ w_gr cI cC yo ao go)) H := hP
  have hD : va_D (fun q : Nat => s.heap.size ≤ q) ((hd_law cI cC t0 t1 t2 t3 mb nw sp yl ys yt yo yn sg' oL' oA oC oF oS oD oP oR oU S P Hd Tr Tx' told pasts runs typed' spot frm reas caus ords ordr ++ w_gr cI cC nw aN gN ++ w_gr cI cC sp aS gS) ++ (w_gr cI cC yl al gl ++ w_gr cI cC ys as_ gs ++ w_gr cI cC yt at_ gt ++ w_gr cI cC yo ao go)) := hD
  exact ⟨aN, aS, al, as_, at_, ao, nw, sp, yl, ys, yt, yo, yn, sg', oL', oA, oC, oF, oS, oD, oP, oR, oU, S, P, Hd, Tr, Tx', told, pasts, runs, typed', spot, frm, reas, caus, ords, ordr, gN, gS, gl, gs, gt, go, (SY.up hc (by omega)), hP, hD, hS⟩
set_option maxHeartbeats 8000000 in
set_option maxRecDepth 100000 in
theorem ls_clearText {t0 t1 t2 t3 B : Nat} {mb : Nat → Nat} {H : Heap} {locs : List Loc} (hLX : LX p m c s b L xs D cI cC) (j : Nat) (hi : 4 * j + 4 ≤ L) (hB : B + 400000 < 2 ^ 28) (hI : INV D cI cC s B t0 t1 t2 t3 mb H locs) (ls : Array Slot) (hl : lv_has ls 4 [(3, .int (nI (4 * j))), (0, .ref b), (1, .ref t0), (2, .ref (mb 0))]) (kk : ∀ (H : Heap) (locs : List Loc), INV D cI cC s (B + 90000) t0 t1 t2 t3 mb H locs → ∀ ls : Array Slot, lv_has ls 4 [(3, .int (nI (4 * j))), (0, .ref b), (1, .ref t0), (2, .ref (mb 0))] → W p l e room_1 s m #[Value.ref b] below meth c H locs 600000 7302250 (lw_Z below #[Value.ref b] s) (F0 m 739 ls [])) : W p l e room_1 s m #[Value.ref b] below meth c H locs 600000 7302250 (lw_Z below #[Value.ref b] s) (F0 m 690 ls []) := by
  obtain ⟨aN, aS, al, as_, at_, ao, nw, sp, yl, ys, yt, yo, yn, sg, oL, oA, oC, oF, oS, oD, oP, oR, oU, S, P, Hd, Tr, Tx, told, pasts, runs, typed, spot, frm, reas, caus, ords, ordr, gN, gS, gl, gs, gt, go, hSY, hP, hD, hS⟩ := hI
  obtain ⟨⟨r1, oL'⟩, ⟨r2, typed'⟩, e1, e2, he, hc⟩ := st_clear hSY
  refine lc_clearText t0 t1 t2 t3 mb aN aS nw sp yl ys yt yo yn sg oL oA oC oF oS oD oP oR oU S P Hd Tr Tx told pasts runs typed spot frm reas caus ords ordr gN gS (w_gr cI cC yl al gl ++ w_gr cI cC ys as_ gs ++ w_gr cI cC yt at_ gt ++ w_gr cI cC yo ao go) hLX (4 * j) hi _ e1 _ e2 he H locs hP hD hS ls hl (fun H locs hP hD hS ls hl => kk H locs ?_ ls hl)
  have hP : va_P D vwCl ((hd_law cI cC t0 t1 t2 t3 mb nw sp yl ys yt yo yn sg oL' oA oC oF oS oD oP oR oU S P Hd Tr Tx told pasts runs typed' spot frm reas caus ords ordr ++ w_gr cI cC nw aN gN ++ w_gr cI cC sp aS gS) ++ (w_gr cI cC yl al gl ++ w_gr cI cC ys as_ gs ++ w_gr cI cC yt at_ gt ++ w_gr cI cC yo ao go)) H := hP
  have hD : va_D (fun q : Nat => s.heap.size ≤ q) ((hd_law cI cC t0 t1 t2 t3 mb nw sp yl ys yt yo yn sg oL' oA oC oF oS oD oP oR oU S P Hd Tr Tx told pasts runs typed' spot frm reas caus ords ordr ++ w_gr cI cC nw aN gN ++ w_gr cI cC sp aS gS) ++ (w_gr cI cC yl al gl ++ w_gr cI cC ys as_ gs ++ w_gr cI cC yt at_ gt ++ w_gr cI cC yo ao go)) := hD
  exact ⟨aN, aS, al, as_, at_, ao, nw, sp, yl, ys, yt, yo, yn, sg, oL', oA, oC, oF, oS, oD, oP, oR, oU, S, P, Hd, Tr, Tx, told, pasts, runs, typed', spot, frm, reas, caus, ords, ordr, gN, gS, gl, gs, gt, go, (SY.up hc (by omega)), hP, hD, hS⟩
set_option maxHeartbeats 8000000 in
set_option maxRecDepth 100000 in
theorem ls_fault {t0 t1 t2 t3 B : Nat} {mb : Nat → Nat} {H : Heap} {locs : List Loc} (hLX : LX p m c s b L xs D cI cC) (j : Nat) (hi : 4 * j + 4 ≤ L) (hB : B + 400000 < 2 ^ 28) (hI : INV D cI cC s B t0 t1 t2 t3 mb H locs) (ls : Array Slot) (hl : lv_has ls 4 [(3, .int (nI (4 * j))), (0, .ref b), (1, .ref t0), (2, .ref (mb 0))]) (kk : ∀ (H : Heap) (locs : List Loc), INV D cI cC s (B + 90000) t0 t1 t2 t3 mb H locs → ∀ ls : Array Slot, lv_has ls 4 [(3, .int (nI (4 * j))), (0, .ref b), (1, .ref t0), (2, .ref (mb 0))] → W p l e room_1 s m #[Value.ref b] below meth c H locs 600000 7302250 (lw_Z below #[Value.ref b] s) (F0 m 739 ls [])) : W p l e room_1 s m #[Value.ref b] below meth c H locs 600000 7302250 (lw_Z below #[Value.ref b] s) (F0 m 703 ls []) := by
  obtain ⟨aN, aS, al, as_, at_, ao, nw, sp, yl, ys, yt, yo, yn, sg, oL, oA, oC, oF, oS, oD, oP, oR, oU, S, P, Hd, Tr, Tx, told, pasts, runs, typed, spot, frm, reas, caus, ords, ordr, gN, gS, gl, gs, gt, go, hSY, hP, hD, hS⟩ := hI
  obtain ⟨⟨r1, oA', oC', oF', oS', oD', oP', oR', oU', gS'⟩, ⟨r2, S', P', Hd', told', pasts', runs', spot', frm', reas', caus', ords', ordr'⟩, e1, e2, he, hc⟩ := st_fault (nw := nw) (sp := sp) (gS := gS) hSY (by omega) (xs (4 * j + 1)) Hd told oA oC oF oS oD oP oR oU spot frm reas caus ords ordr
  refine lc_fault t0 t1 t2 t3 mb aN aS nw sp yl ys yt yo yn sg oL oA oC oF oS oD oP oR oU S P Hd Tr Tx told pasts runs typed spot frm reas caus ords ordr gN gS (w_gr cI cC yl al gl ++ w_gr cI cC ys as_ gs ++ w_gr cI cC yt at_ gt ++ w_gr cI cC yo ao go) hLX (4 * j) hi _ e1 _ e2 he H locs hP hD hS ls hl (fun H locs hP hD hS ls hl => kk H locs ?_ ls hl)
  have hP : va_P D vwCl ((hd_law cI cC t0 t1 t2 t3 mb nw sp yl ys yt yo yn sg oL oA' oC' oF' oS' oD' oP' oR' oU' S' P' Hd' Tr Tx told' pasts' runs' typed spot' frm' reas' caus' ords' ordr' ++ w_gr cI cC nw aN gN ++ w_gr cI cC sp aS gS') ++ (w_gr cI cC yl al gl ++ w_gr cI cC ys as_ gs ++ w_gr cI cC yt at_ gt ++ w_gr cI cC yo ao go)) H := hP
  have hD : va_D (fun q : Nat => s.heap.size ≤ q) ((hd_law cI cC t0 t1 t2 t3 mb nw sp yl ys yt yo yn sg oL oA' oC' oF' oS' oD' oP' oR' oU' S' P' Hd' Tr Tx told' pasts' runs' typed spot' frm' reas' caus' ords' ordr' ++ w_gr cI cC nw aN gN ++ w_gr cI cC sp aS gS') ++ (w_gr cI cC yl al gl ++ w_gr cI cC ys as_ gs ++ w_gr cI cC yt at_ gt ++ w_gr cI cC yo ao go)) := hD
  exact ⟨aN, aS, al, as_, at_, ao, nw, sp, yl, ys, yt, yo, yn, sg, oL, oA', oC', oF', oS', oD', oP', oR', oU', S', P', Hd', Tr, Tx, told', pasts', runs', typed, spot', frm', reas', caus', ords', ordr', gN, gS', gl, gs, gt, go, (SY.up hc (by omega)), hP, hD, hS⟩
set_option maxHeartbeats 8000000 in
set_option maxRecDepth 100000 in
theorem ls_play {t0 t1 t2 t3 B : Nat} {mb : Nat → Nat} {H : Heap} {locs : List Loc} (hLX : LX p m c s b L xs D cI cC) (j : Nat) (hi : 4 * j + 4 ≤ L) (hB : B + 400000 < 2 ^ 28) (hI : INV D cI cC s B t0 t1 t2 t3 mb H locs) (ls : Array Slot) (hl : lv_has ls 4 [(3, .int (nI (4 * j))), (0, .ref b), (1, .ref t0), (2, .ref (mb 0))]) (kk : ∀ (H : Heap) (locs : List Loc), INV D cI cC s (B + 90000) t0 t1 t2 t3 mb H locs → ∀ ls : Array Slot, lv_has ls 4 [(3, .int (nI (4 * j))), (0, .ref b), (1, .ref t0), (2, .ref (mb 0))] → W p l e room_1 s m #[Value.ref b] below meth c H locs 600000 7302250 (lw_Z below #[Value.ref b] s) (F0 m 739 ls [])) : W p l e room_1 s m #[Value.ref b] below meth c H locs 600000 7302250 (lw_Z below #[Value.ref b] s) (F0 m 726 ls []) := by
  obtain ⟨aN, aS, al, as_, at_, ao, nw, sp, yl, ys, yt, yo, yn, sg, oL, oA, oC, oF, oS, oD, oP, oR, oU, S, P, Hd, Tr, Tx, told, pasts, runs, typed, spot, frm, reas, caus, ords, ordr, gN, gS, gl, gs, gt, go, hSY, hP, hD, hS⟩ := hI
  obtain ⟨⟨r1, nw', sp', yl', ys', yt', yo', yn', oA', oC', oF', oS', oD', oP', oR', oU', gS'⟩, ⟨r2, S', P', Hd', told', pasts', runs', spot', frm', reas', caus', ords', ordr'⟩, e1, e2, he, hc⟩ := st_play (nw := nw) (sp := sp) (yl := yl) (ys := ys) (yt := yt) (yo := yo) (gS := gS) hSY hB Hd told oA oC oF oS oD oP oR oU spot frm reas caus ords ordr
  refine lc_play t0 t1 t2 t3 mb aN aS nw sp yl ys yt yo yn sg oL oA oC oF oS oD oP oR oU S P Hd Tr Tx told pasts runs typed spot frm reas caus ords ordr gN gS (w_gr cI cC yl al gl ++ w_gr cI cC ys as_ gs ++ w_gr cI cC yt at_ gt ++ w_gr cI cC yo ao go) hLX (4 * j) hi _ e1 _ e2 he H locs hP hD hS ls hl (fun H locs hP hD hS ls hl => kk H locs ?_ ls hl)
  have hP : va_P D vwCl ((hd_law cI cC t0 t1 t2 t3 mb nw' sp' yl' ys' yt' yo' yn' sg oL oA' oC' oF' oS' oD' oP' oR' oU' S' P' Hd' Tr Tx told' pasts' runs' typed spot' frm' reas' caus' ords' ordr' ++ w_gr cI cC nw aN gN ++ w_gr cI cC sp aS gS') ++ (w_gr cI cC yl al gl ++ w_gr cI cC ys as_ gs ++ w_gr cI cC yt at_ gt ++ w_gr cI cC yo ao go)) H := hP
  have hD : va_D (fun q : Nat => s.heap.size ≤ q) ((hd_law cI cC t0 t1 t2 t3 mb nw' sp' yl' ys' yt' yo' yn' sg oL oA' oC' oF' oS' oD' oP' oR' oU' S' P' Hd' Tr Tx told' pasts' runs' typed spot' frm' reas' caus' ords' ordr' ++ w_gr cI cC nw aN gN ++ w_gr cI cC sp aS gS') ++ (w_gr cI cC yl al gl ++ w_gr cI cC ys as_ gs ++ w_gr cI cC yt at_ gt ++ w_gr cI cC yo ao go)) := hD
  rcases hc with ⟨q1, q2, q3, q4, q5, q6, h7⟩ | ⟨q1, q2, q3, q4, q5, q6, h7⟩
  · obtain rfl : nw' = nw := q1
    obtain rfl : sp' = sp := q2
    obtain rfl : yl' = yl := q3
    obtain rfl : ys' = ys := q4
    obtain rfl : yt' = yt := q5
    obtain rfl : yo' = yo := q6
    exact ⟨aN, aS, al, as_, at_, ao, nw', sp', yl', ys', yt', yo', yn', sg, oL, oA', oC', oF', oS', oD', oP', oR', oU', S', P', Hd', Tr, Tx, told', pasts', runs', typed, spot', frm', reas', caus', ords', ordr', gN, gS', gl, gs, gt, go, h7, hP, hD, hS⟩
  · obtain rfl : nw' = sp := q1
    obtain rfl : sp' = yo := q2
    obtain rfl : yl' = nw := q3
    obtain rfl : ys' = yl := q4
    obtain rfl : yt' = ys := q5
    obtain rfl : yo' = yt := q6
    exact ⟨aS, ao, aN, al, as_, at_, nw', sp', yl', ys', yt', yo', yn', sg, oL, oA', oC', oF', oS', oD', oP', oR', oU', S', P', Hd', Tr, Tx, told', pasts', runs', typed, spot', frm', reas', caus', ords', ordr', gS', go, gN, gl, gs, gt, h7, vp_perm (pm_chg _ _ _ _ _ _ _) hP, vd_perm (pm_chg _ _ _ _ _ _ _) hD, hS⟩
theorem lp_in {j L : Nat} (hL : L ≤ 2048) (hj : j ≤ 512) (h : ¬ (nI L - (4 : Int32)) < nI (4 * j)) : 4 * j + 4 ≤ L := by
  rw [fa_lit 4] at h
  refine Nat.not_lt.mp (fun q => h ?_)
  by_cases c : 4 ≤ L
  · rw [pk_sub c]
    exact nI_lt (by omega) (by omega)
  · have h1 := pk_sneg (a := L) (b := 4) (by decide) (by omega)
    have h2 := nI_pos' (n := 4 * j) (by omega)
    rw [Int32.lt_iff_toInt_lt] at h1 ⊢
    rw [Int32.le_iff_toInt_le] at h2
    omega
set_option maxHeartbeats 8000000 in
set_option maxRecDepth 100000 in
theorem law_loop {t0 t1 t2 t3 : Nat} {mb : Nat → Nat} (hLX : LX p m c s b L xs D cI cC) (hr : meth.sig.returnType = ret) (hlocks : meth.locks = false) : ∀ (n j : Nat) (H : Heap) (locs : List Loc) (ls : Array Slot), j + n = 513 → INV D cI cC s (90000 * j) t0 t1 t2 t3 mb H locs → lv_has ls 4 [(3, .int (nI (4 * j))), (0, .ref b), (1, .ref t0), (2, .ref (mb 0))] → W p l e room_1 s m #[Value.ref b] below meth c H locs 600000 7302250 (lw_Z below #[Value.ref b] s) (F0 m 18 ls []) := by
  obtain ⟨hF, hX, hbl, hL, hST⟩ := id hLX
  obtain ⟨⟨hx, hb, hml, hown, hts⟩, hK, hN⟩ := id hF
  have hbA : ¬ (fun q : Nat => s.heap.size ≤ q) b := Nat.not_le.mpr hbl
  intro n
  induction n with
  | zero =>
    intro j H locs ls hj hI hl
    have hS : va_S (fun q : Nat => s.heap.size ≤ q) s.heap H locs := by
      obtain ⟨aN, aS, al, as_, at_, ao, nw, sp, yl, ys, yt, yo, yn, sg, oL, oA, oC, oF, oS, oD, oP, oR, oU, S, P, Hd, Tr, Tx, told, pasts, runs, typed, spot, frm, reas, caus, ords, ordr, gN, gS, gl, gs, gt, go, hSY, hP, hD, hS⟩ := hI
      exact hS
    refine lv_iload_n hx hb dL_law_18 rfl (lv_at hl 0 rfl) ?_
    refine lv_aload_n hx hb dL_law_19 rfl (lv_at hl 1 rfl) ?_
    refine va_slen hx hb hX hbl hbA hS dL_law_20 ?_
    refine lv_iconst (v := 4) hx hb dL_law_21 (by decide) ?_
    refine lv_isub hx hb dL_law_22 ?_
    refine lv_icmp_gt (tgt := 745) hx hb dL_law_23 (by decide) (fun _ => ?_) (fun hc => ?_)
    · refine lv_iconst (v := 1) hx hb dL_law_745 (by decide) ?_
      refine va_forget (fun q hq => hS.2.2 q hq) ?_
      exact lw_ret hx hb hr hlocks dL_law_746
    · refine absurd ?_ hc
      show nI L - (4 : Int32) < nI (4 * j)
      by_cases c4 : 4 ≤ L
      · rw [fa_lit 4, pk_sub c4]
        exact nI_lt (by omega) (by omega)
      · have h1 := pk_sneg (a := L) (b := 4) (by decide) (by omega)
        have h2 := nI_pos' (n := 4 * j) (by omega)
        rw [fa_lit 4]
        rw [Int32.lt_iff_toInt_lt] at h1 ⊢
        rw [Int32.le_iff_toInt_le] at h2
        omega
  | succ n ih =>
    intro j H locs ls hj hI hl
    have hS : va_S (fun q : Nat => s.heap.size ≤ q) s.heap H locs := by
      obtain ⟨aN, aS, al, as_, at_, ao, nw, sp, yl, ys, yt, yo, yn, sg, oL, oA, oC, oF, oS, oD, oP, oR, oU, S, P, Hd, Tr, Tx, told, pasts, runs, typed, spot, frm, reas, caus, ords, ordr, gN, gS, gl, gs, gt, go, hSY, hP, hD, hS⟩ := hI
      exact hS
    refine lv_iload_n hx hb dL_law_18 rfl (lv_at hl 0 rfl) ?_
    refine lv_aload_n hx hb dL_law_19 rfl (lv_at hl 1 rfl) ?_
    refine va_slen hx hb hX hbl hbA hS dL_law_20 ?_
    refine lv_iconst (v := 4) hx hb dL_law_21 (by decide) ?_
    refine lv_isub hx hb dL_law_22 ?_
    refine lv_icmp_gt (tgt := 745) hx hb dL_law_23 (by decide) (fun _ => ?_) (fun hc => ?_)
    · refine lv_iconst (v := 1) hx hb dL_law_745 (by decide) ?_
      refine va_forget (fun q hq => hS.2.2 q hq) ?_
      exact lw_ret hx hb hr hlocks dL_law_746
    · have hi : 4 * j + 4 ≤ L := lp_in hL (by omega) hc
      have kk : ∀ (H : Heap) (locs : List Loc), INV D cI cC s (90000 * j + 90000) t0 t1 t2 t3 mb H locs → ∀ ls : Array Slot, lv_has ls 4 [(3, .int (nI (4 * j))), (0, .ref b), (1, .ref t0), (2, .ref (mb 0))] → W p l e room_1 s m #[Value.ref b] below meth c H locs 600000 7302250 (lw_Z below #[Value.ref b] s) (F0 m 739 ls []) := by
        intro H locs hI ls hl
        refine lv_iinc (v := nI (4 * (j + 1))) (lv' := [(3, .int (nI (4 * (j + 1)))), (0, .ref b), (1, .ref t0), (2, .ref (mb 0))]) hx hb dL_law_739 hl (k := 0) rfl (by show nI (4 * j) + nI 4 = _; rw [nI_add]; rfl) (by decide) rfl (fun ls hl => ?_)
        refine lv_goto (tgt := 18) hx hb dL_law_742 (by decide) ?_
        exact ih (j + 1) H locs ls (by omega) (by rw [show 90000 * (j + 1) = 90000 * j + 90000 by omega]; exact hI) hl
      have hB : 90000 * j + 400000 < 2 ^ 28 := by omega
      refine lv_aload_n hx hb dL_law_26 rfl (lv_at hl 1 rfl) ?_
      refine lv_iload_n hx hb dL_law_27 rfl (lv_at hl 0 rfl) ?_
      refine va_sld hx hb hX hbl hbA hS (vp_in_nI (show 4 * j < L by omega) (by omega)) dL_law_28 ?_
      refine lv_bipush (v := (31 : Int32)) hx hb dL_law_29 (by decide) ?_
      refine lv_iand hx hb dL_law_31 ?_
      obtain ⟨t, ht, et⟩ := pk_andE (xs (nI (4 * j)).toNatClampNeg) (m := 31) 5 (by decide)
      rw [et]
      have ht' : t < 32 := ht
      by_cases c0 : t = 0
      · subst c0
        refine lv_tableIn (off := 108) (tgt := 140) hx hb dL_law_32 (by decide) (by decide) rfl (by decide) ?_
        exact ls_fill hLX j hi hB hI ls hl kk
      by_cases c1 : t = 1
      · subst c1
        refine lv_tableIn (off := 141) (tgt := 173) hx hb dL_law_32 (by decide) (by decide) rfl (by decide) ?_
        exact ls_grind hLX j hi hB hI ls hl kk
      by_cases c2 : t = 2
      · subst c2
        refine lv_tableIn (off := 174) (tgt := 206) hx hb dL_law_32 (by decide) (by decide) rfl (by decide) ?_
        exact ls_dial hLX j hi hB hI ls hl kk
      by_cases c3 : t = 3
      · subst c3
        refine lv_tableIn (off := 207) (tgt := 239) hx hb dL_law_32 (by decide) (by decide) rfl (by decide) ?_
        exact ls_rest hLX j hi hB hI ls hl kk
      by_cases c4 : t = 4
      · subst c4
        refine lv_tableIn (off := 230) (tgt := 262) hx hb dL_law_32 (by decide) (by decide) rfl (by decide) ?_
        exact ls_shot hLX j hi hB hI ls hl kk
      by_cases c5 : t = 5
      · subst c5
        refine lv_tableIn (off := 243) (tgt := 275) hx hb dL_law_32 (by decide) (by decide) rfl (by decide) ?_
        exact ls_purge hLX j hi hB hI ls hl kk
      by_cases c6 : t = 6
      · subst c6
        refine lv_tableIn (off := 256) (tgt := 288) hx hb dL_law_32 (by decide) (by decide) rfl (by decide) ?_
        exact ls_correct hLX j hi hB hI ls hl kk
      by_cases c7 : t = 7
      · subst c7
        refine lv_tableIn (off := 279) (tgt := 311) hx hb dL_law_32 (by decide) (by decide) rfl (by decide) ?_
        exact ls_set hLX j hi hB hI ls hl kk
      by_cases c8 : t = 8
      · subst c8
        refine lv_tableIn (off := 312) (tgt := 344) hx hb dL_law_32 (by decide) (by decide) rfl (by decide) ?_
        exact ls_burrOf hLX j hi hB hI ls hl kk
      by_cases c9 : t = 9
      · subst c9
        refine lv_tableIn (off := 345) (tgt := 377) hx hb dL_law_32 (by decide) (by decide) rfl (by decide) ?_
        exact ls_lotOf hLX j hi hB hI ls hl kk
      by_cases c10 : t = 10
      · subst c10
        refine lv_tableIn (off := 378) (tgt := 410) hx hb dL_law_32 (by decide) (by decide) rfl (by decide) ?_
        exact ls_portionOf hLX j hi hB hI ls hl kk
      by_cases c11 : t = 11
      · subst c11
        refine lv_tableIn (off := 421) (tgt := 453) hx hb dL_law_32 (by decide) (by decide) rfl (by decide) ?_
        exact ls_shotOf hLX j hi hB hI ls hl kk
      by_cases c12 : t = 12
      · subst c12
        refine lv_tableIn (off := 454) (tgt := 486) hx hb dL_law_32 (by decide) (by decide) rfl (by decide) ?_
        exact ls_best hLX j hi hB hI ls hl kk
      by_cases c13 : t = 13
      · subst c13
        refine lv_tableIn (off := 477) (tgt := 509) hx hb dL_law_32 (by decide) (by decide) rfl (by decide) ?_
        exact ls_wouldTake hLX j hi hB hI ls hl kk
      by_cases c14 : t = 14
      · subst c14
        refine lv_tableIn (off := 510) (tgt := 542) hx hb dL_law_32 (by decide) (by decide) rfl (by decide) ?_
        exact ls_dialFor hLX j hi hB hI ls hl kk
      by_cases c15 : t = 15
      · subst c15
        refine lv_tableIn (off := 543) (tgt := 575) hx hb dL_law_32 (by decide) (by decide) rfl (by decide) ?_
        exact ls_stale hLX j hi hB hI ls hl kk
      by_cases c16 : t = 16
      · subst c16
        refine lv_tableIn (off := 566) (tgt := 598) hx hb dL_law_32 (by decide) (by decide) rfl (by decide) ?_
        exact ls_coolAfter hLX j hi hB hI ls hl kk
      by_cases c17 : t = 17
      · subst c17
        refine lv_tableIn (off := 599) (tgt := 631) hx hb dL_law_32 (by decide) (by decide) rfl (by decide) ?_
        exact ls_count hLX j hi hB hI ls hl kk
      by_cases c18 : t = 18
      · subst c18
        refine lv_tableIn (off := 622) (tgt := 654) hx hb dL_law_32 (by decide) (by decide) rfl (by decide) ?_
        exact ls_undo hLX j hi hB hI ls hl kk
      by_cases c19 : t = 19
      · subst c19
        refine lv_tableIn (off := 635) (tgt := 667) hx hb dL_law_32 (by decide) (by decide) rfl (by decide) ?_
        exact ls_type hLX j hi hB hI ls hl kk
      by_cases c20 : t = 20
      · subst c20
        refine lv_tableIn (off := 658) (tgt := 690) hx hb dL_law_32 (by decide) (by decide) rfl (by decide) ?_
        exact ls_clearText hLX j hi hB hI ls hl kk
      by_cases c21 : t = 21
      · subst c21
        refine lv_tableIn (off := 671) (tgt := 703) hx hb dL_law_32 (by decide) (by decide) rfl (by decide) ?_
        exact ls_fault hLX j hi hB hI ls hl kk
      by_cases c22 : t = 22
      · subst c22
        refine lv_tableIn (off := 694) (tgt := 726) hx hb dL_law_32 (by decide) (by decide) rfl (by decide) ?_
        exact ls_play hLX j hi hB hI ls hl kk
      refine lv_tableOut (tgt := 739) hx hb dL_law_32 (Or.inr ?_) (by decide) ?_
      · rw [nI_toInt (by omega)]
        omega
      · refine kk H locs ?_ ls hl
        obtain ⟨aN, aS, al, as_, at_, ao, nw, sp, yl, ys, yt, yo, yn, sg, oL, oA, oC, oF, oS, oD, oP, oR, oU, S, P, Hd, Tr, Tx, told, pasts, runs, typed, spot, frm, reas, caus, ords, ordr, gN, gS, gl, gs, gt, go, hSY, hP, hD, hS⟩ := hI
        exact ⟨aN, aS, al, as_, at_, ao, nw, sp, yl, ys, yt, yo, yn, sg, oL, oA, oC, oF, oS, oD, oP, oR, oU, S, P, Hd, Tr, Tx, told, pasts, runs, typed, spot, frm, reas, caus, ords, ordr, gN, gS, gl, gs, gt, go, SY.up hSY (by omega), hP, hD, hS⟩
end
