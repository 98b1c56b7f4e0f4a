/-! the class's object as the law sees it: a state of the specification; its cells stand behind a name -/
def w_ob (cC : ClassId) (t0 t1 t2 t3 nw sp yl ys yt yo : Nat) (yn : Int32) (sg : Nat → Int32) (oA oC oF oS oD oP oR oU : Int32) : va_W := [(t0, .inr (7, [.ref t1, .ref t2, .ref nw, .ref sp])), (t1, .inr (2, [.ref yl, .ref ys, .ref yt, .ref yo, .int yn])), (t2, .inr (4, [.ref t3, .int 0, .int oA, .int oC, .int oF, .int oS, .int oD, .int oP, .int oR, .int oU])), (t3, .inl (cC, 60, .inl sg))]
def w_hs (cI cC : ClassId) (yl ys yt yo : Nat) (al as_ at_ ao : Nat → Nat) (gl gs gt go : Gr) : va_W := w_gr cI cC yl al gl ++ w_gr cI cC ys as_ gs ++ w_gr cI cC yt at_ gt ++ w_gr cI cC yo ao go
def OB (cI cC : ClassId) (t0 : Nat) (w0 : va_W) (σ : Sp) (w : va_W) : Prop := ∃ (t1 t2 t3 : Nat) (aN aS al as_ at_ ao : Nat → Nat) (nw sp yl ys yt yo n : Nat) (sg : Nat → Int32) (oA oC oF oS oD oP oR oU : Int32) (gN gS gl gs gt go : Gr), w = (w_ob cC t0 t1 t2 t3 nw sp yl ys yt yo (nI n) sg oA oC oF oS oD oP oR oU ++ w_gr cI cC nw aN gN ++ w_gr cI cC sp aS gS) ++ w_hs cI cC yl ys yt yo al as_ at_ ao gl gs gt go ∧ (w.map Prod.fst).Perm (w0.map Prod.fst) ∧ GR σ gN ∧ KK σ (v_se σ) ∧ n ≤ 4
theorem OB.pm {cI cC : ClassId} {t0 : Nat} {w0 w : va_W} {σ : Sp} (h : OB cI cC t0 w0 σ w) : (w.map Prod.fst).Perm (w0.map Prod.fst) := by
  obtain ⟨t1, t2, t3, aN, aS, al, as_, at_, ao, nw, sp, yl, ys, yt, yo, n, sg, oA, oC, oF, oS, oD, oP, oR, oU, gN, gS, gl, gs, gt, go, e, hpm, r⟩ := h
  exact hpm
def ad_gr (h : Nat) (a : Nat → Nat) : List Nat := [h, a 1, a 2, a 3, a 4, a 5, a 6, a 7, a 8, a 9, a 10, a 11, a 12, a 13, a 14, a 15]
theorem map_gr (cI cC : ClassId) (h : Nat) (a : Nat → Nat) (g : Gr) : (w_gr cI cC h a g).map Prod.fst = ad_gr h a := rfl
theorem perm_lift {α β : Type} {f : α → β} {l1 l2 : List β} (h : l1.Perm l2) : ∀ w : List α, w.map f = l1 → ∃ w' : List α, w'.Perm w ∧ w'.map f = l2 := by
  induction h with
  | nil => intro w hw; exact ⟨w, List.Perm.refl _, hw⟩
  | cons x h ih =>
    intro w hw
    cases w with
    | nil => cases hw
    | cons a w =>
      simp only [List.map_cons, List.cons.injEq] at hw
      obtain ⟨w', h1, h2⟩ := ih w hw.2
      exact ⟨a :: w', h1.cons a, by simp only [List.map_cons, hw.1, h2]⟩
  | swap x y l =>
    intro w hw
    match w, hw with
    | a :: b :: w, hw =>
      simp only [List.map_cons, List.cons.injEq] at hw
      exact ⟨b :: a :: w, List.Perm.swap a b w, by simp only [List.map_cons, hw.1, hw.2.1, hw.2.2]⟩
  | trans h1 h2 i1 i2 =>
    intro w hw
    obtain ⟨w1, p1, q1⟩ := i1 w hw
    obtain ⟨w2, p2, q2⟩ := i2 w1 q1
    exact ⟨w2, p2.trans p1, q2⟩
theorem vp_perm {D : va_G} {cl : List vw_C} {W W' : va_W} {H : Heap} (h : W.Perm W') (hP : va_P D cl W H) : va_P D cl W' H := fun k q hq => by
  obtain ⟨j, hj⟩ := List.getElem?_of_mem (h.mem_iff.mpr (List.mem_of_getElem? hq))
  exact hP j q hj
theorem vd_iff {A : Nat → Prop} {W : va_W} : va_D A W ↔ W.Pairwise (fun p q => p.1 ≠ q.1) ∧ ∀ q ∈ W, A q.1 := by
  constructor
  · rintro ⟨h1, h2⟩
    refine ⟨List.pairwise_iff_getElem.mpr (fun i j hi hj hij e => ?_), fun q hq => ?_⟩
    · have := h1 i j _ _ (List.getElem?_eq_getElem hi) (List.getElem?_eq_getElem hj) e
      omega
    · obtain ⟨k, hk⟩ := List.getElem?_of_mem hq
      exact h2 k q hk
  · rintro ⟨h1, h2⟩
    have h1' := List.pairwise_iff_getElem.mp h1
    refine ⟨fun i j p q hp hq e => ?_, fun k q hq => h2 q (List.mem_of_getElem? hq)⟩
    obtain ⟨hi, rfl⟩ := List.getElem?_eq_some_iff.mp hp
    obtain ⟨hj, rfl⟩ := List.getElem?_eq_some_iff.mp hq
    rcases Nat.lt_trichotomy i j with c | c | c
    · exact absurd e (h1' i j hi hj c)
    · exact c
    · exact absurd e.symm (h1' j i hj hi c)
theorem vd_perm {A : Nat → Prop} {W W' : va_W} (h : W.Perm W') (hD : va_D A W) : va_D A W' := by
  rw [vd_iff] at hD ⊢
  exact ⟨(h.pairwise_iff (fun q => Ne.symm q)).mp hD.1, fun q hq => hD.2 q (h.mem_iff.mpr hq)⟩
theorem pm_chg {α : Type} (X a s l m n o : List α) : ((X ++ a ++ s) ++ (l ++ m ++ n ++ o)).Perm ((X ++ s ++ o) ++ (a ++ l ++ m ++ n)) := by
  simp only [List.append_assoc]
  refine List.Perm.append_left X ?_
  refine (List.perm_append_comm_assoc a s _).trans (List.Perm.append_left s ?_)
  have := List.perm_append_comm (l₁ := a ++ (l ++ (m ++ n))) (l₂ := o)
  simp only [List.append_assoc] at this
  exact this
def ndn (n : Nat) (is : List Nat) : Bool := va_nd is && is.all (fun i => decide (i < n))
theorem nd_rng : ∀ (k n : Nat) , va_nd ((List.range k).map (fun j => n + j)) = true := by
  intro k n
  refine (show ∀ l : List Nat, l.Nodup → va_nd l = true from fun l => ?_) _ ?_
  · induction l with
    | nil => intro _; rfl
    | cons a l ih =>
      intro h
      rw [List.nodup_cons] at h
      simp only [va_nd, Bool.and_eq_true, decide_eq_true_eq]
      exact ⟨h.1, ih h.2⟩
  · refine List.Pairwise.map (fun j => n + j) (fun a b h => ?_) List.nodup_range
    omega
theorem nd_app : ∀ (a b : List Nat), va_nd a = true → va_nd b = true → (∀ i ∈ a, i ∉ b) → va_nd (a ++ b) = true
  | [], b, _, hb, _ => hb
  | x :: a, b, ha, hb, h => by
    simp only [va_nd, Bool.and_eq_true, decide_eq_true_eq] at ha
    simp only [List.cons_append, va_nd, Bool.and_eq_true, decide_eq_true_eq, List.mem_append, not_or]
    exact ⟨⟨ha.1, h x List.mem_cons_self⟩, nd_app a b ha.2 hb (fun i hi => h i (List.mem_cons_of_mem _ hi))⟩
theorem nd_both {n k : Nat} {is : List Nat} (h : ndn n is = true) : va_nd (is ++ (List.range k).map (fun j => n + j)) = true := by
  simp only [ndn, Bool.and_eq_true] at h
  refine nd_app _ _ h.1 (nd_rng k n) (fun i hi hm => ?_)
  have h1 := List.all_eq_true.mp h.2 i hi
  obtain ⟨j, -, rfl⟩ := List.mem_map.mp hm
  have := of_decide_eq_true h1
  omega
theorem cvr_comm (n : Nat) (a b : List Nat) : cvr n a b = cvr n b a := by
  unfold cvr
  congr 1
  funext k
  exact Bool.or_comm _ _
/-- what a change of the object leaves: its cells are a part of the object's, the rest stays -/
def OO (cI cC : ClassId) (t0 : Nat) (w0 w : va_W) (K : va_W → va_W → Prop) (σ' : Sp) : Prop := ∃ (isC isR : List Nat) (wc wn wr X0 X1 Y w' : va_W) (n : Nat) (fs : List Value), w = X0 ++ Y ∧ isC.map (fun i => X0[i]?) = wc.map some ∧ va_nd isC = true ∧ wn.map Prod.fst = wc.map Prod.fst ∧ isC.map (fun i => X1[i]?) = wn.map some ∧ isR.map (fun i => X0[i]?) = wr.map some ∧ isR.map (fun i => X1[i]?) = wr.map some ∧ X0.length = n ∧ X1.length = n ∧ cvr n isC isR = true ∧ X0[0]? = some (t0, .inr (7, fs)) ∧ K wc wn ∧ (X1 ++ Y).Perm w' ∧ OB cI cC t0 w0 σ' w'
def OQ (t0 : Nat) (w : va_W) (K : va_W → Prop) : Prop := ∃ (isC : List Nat) (wc X0 Y : va_W) (fs : List Value), w = X0 ++ Y ∧ isC.map (fun i => X0[i]?) = wc.map some ∧ va_nd isC = true ∧ X0[0]? = some (t0, .inr (7, fs)) ∧ K wc
def WrO (l : Launch) (y : MethodName) (ws : List Cond) (rm : Room) (D : va_G) (cI cC : ClassId) (t0 : Nat) (w0 w X0 X1 : va_W) (as : List Value) (r : Int32) (σ' : Sp) : Prop := Met l y ws rm (va_Pc as (pwS D cI cC (X0 ++ w))) (va_Qi (fun r' (w' : va_W) => r' = r ∧ OB cI cC t0 w0 σ' w') (fun w' t => va_P D vwCl (X1 ++ w') t.heap) (ad (X0 ++ w))) 0 0 (ad (X0 ++ w))
section ENO
variable {l : Launch} {D : va_G} {cI cC : ClassId} {y : MethodName} {ws ws' : List Cond} {rm : Room} {cc : ByteArray} {n t0 : Nat} {ty : FieldType} {w0 w X0 X1 : va_W} {as : List Value} {r : Int32} {σ' : Sp}
theorem en_O (hy : plainName y.cls = true) (hw : ws = Cond.code y cc n (some ty) :: ws') (hlen : (lg_sl as).length ≤ n)
    (body : ∀ (p : Program) (e : Env) (s : State) (m : MethodId) (args : Array Value) (below : List Frame) (meth : Method) (c : Code) (Q : State → Prop) (AA : Nat → Prop) (ls : Array Slot), p.tables.exec = Jvm.exec → c.code = cc → c.maxLocals = n → s.vm.findClass y.cls = some m.cls → (∀ w ∈ ws, w.before args s = true) → va_K D vwCl (tya cI cC) s → NW s → va_P D vwCl (X0 ++ w) s.heap → va_D AA (X0 ++ w) → va_S AA s.heap s.heap [] → STX AA s → lv_has ls n (lv_args 0 as) →
      (∀ (pc : Nat) (ls : Array Slot) (v : Int32) (w' : va_W) (H : Heap) (locs : List Loc), decode cc pc = .ok (.ireturn, 1) → narrow ty (.int v) = .int v → v = r → OB cI cC t0 w0 σ' w' → va_P D vwCl (X1 ++ w') H → va_S AA s.heap H locs → W p l e rm s m args below meth c H locs 0 0 Q (F0 m pc ls [.int v])) →
      W p l e rm s m args below meth c s.heap [] 0 0 Q (F0 m 0 ls [])) : WrO l y ws rm D cI cC t0 w0 w X0 X1 as r σ' := by
  refine Met.ofW (cc := cc) (maxL := n) (ret := some ty) hy hw ?_
  intro p e s m args below meth c s₁ B hml hv
  obtain ⟨rfl, ⟨hP, hK, hD, hN⟩, hST⟩ := hv
  have hts := atoms_spec (ws := ws) B.pre
  have hown : s.vm.findClass y.cls = some m.cls := findClass_of_methodNamed B.named
  have hlocks := B.notSynchronized
  have hl := lv_entry as hlen
  rw [lg_entry_eq]
  generalize (lg_sl as ++ List.replicate (n - (lg_sl as).length) Slot.unset).toArray = ls at hl ⊢
  refine body p e s m _ below meth c _ (ad (X0 ++ w)) ls B.exec B.bytes hml hown hts hK hN hP ⟨hD.1, fun k q hq => ad.in hq⟩ va_S.rf hST hl ?_
  intro pc ls v w' H locs hd hn hv hO hP hS
  exact W.zret B.exec B.bytes B.returns hn (fun t ht _ => ⟨⟨v, w', rfl, ⟨hv, hO⟩, by rw [← ht] at hP; exact hP⟩, hS.F ht⟩) hS.2.2 hd hlocks
end ENO
section CLO
variable {p : Program} {l : Launch} {e : Env} {R : Room} {s : State} {m : MethodId} {args : Array Value} {below : List Frame} {meth : Method} {c : Code} {H : Heap} {locs : List Loc} {cells slots : Nat} {Q : State → Prop}
variable {cc bytes : ByteArray} {pc maxL nL n index t0 : Nat} {ls : Array Slot} {rest st0 As : List Value} {A : Nat → Prop} {Ts ws : List Cond} {rm : Room} {own : String} {y : MethodName} {ret : Option FieldType} {D : va_G} {cI cC : ClassId} {X0 X1 Y Z w0 w wc wn Xc Xn : va_W} {nX : Nat} {r : Int32} {H0 : Heap} {σ σ' : Sp}
theorem cl_RO (hF : FX p m c cc nL s args Ts own D cI cC) (hP : va_P D vwCl (Z ++ w) H) (hD : va_D A (Z ++ w)) (hT : OB cI cC t0 w0 σ w) (hO : OQ t0 w (fun wc => RdI l y ws rm D cI cC wc (.ref t0 :: As) r)) (cw : CallW R s args own RX7 index y bytes maxL ret ws rm 0 0 n) (hn : As.length = n) (hst : st0 = As.reverse ++ .ref t0 :: rest) (hsz : ls.size = nL) (hrm : (rest.map fun v => v.category).sum ≤ 8) (hdg : decode cc pc = .ok (.invokevirtual index, 3)) (hcs : cells ≤ R.cells ∧ slots ≤ R.slots)
    (kk : W p l e R s m args below meth c H locs cells slots Q (F0 m (pc + 3) ls (.int r :: rest))) : W p l e R s m args below meth c H locs cells slots Q (F0 m pc ls st0) := by
  obtain ⟨isC, wc, X0, Y, fs, rfl, hC, hnd, hfs, hM⟩ := hO
  have hPx : (Z ++ (X0 ++ Y)).Perm (X0 ++ (Y ++ Z)) := by
    have := List.perm_append_comm (l₁ := Z) (l₂ := X0 ++ Y)
    rwa [List.append_assoc X0 Y Z] at this
  have hP1 := vp_perm hPx hP
  have h0 : (X0 ++ (Y ++ Z))[0]? = some (t0, .inr (7, fs)) := by rw [List.getElem?_append_left (List.getElem?_eq_some_iff.mp hfs).1]; exact hfs
  exact cl_RVL hF hP1 (vd_perm hPx hD) hM cw isC hC hnd (va_recv hF.2.1 hP1 (ci := 7) rfl h0) hn hst hsz hrm hdg hcs kk
theorem cl_WO (hF : FX p m c cc nL s args Ts own D cI cC) (hP : va_P D vwCl (Z ++ w) H) (hD : va_D A (Z ++ w)) (hS : va_S A H0 H locs) (hO : OO cI cC t0 w0 w (fun wc wn => WrI l y ws rm D cI cC wc wn (.ref t0 :: As) r) σ') (cw : CallW R s args own RX7 index y bytes maxL ret ws rm 0 0 n) (hn : As.length = n) (hst : st0 = As.reverse ++ .ref t0 :: rest) (hsz : ls.size = nL) (hrm : (rest.map fun v => v.category).sum ≤ 8) (hdg : decode cc pc = .ok (.invokevirtual index, 3)) (hcs : cells ≤ R.cells ∧ slots ≤ R.slots)
    (kk : ∀ (w' : va_W) (H1 : Heap) (locs1 : List Loc), OB cI cC t0 w0 σ' w' → va_P D vwCl (Z ++ w') H1 → va_D A (Z ++ w') → va_S A H0 H1 locs1 → W p l e R s m args below meth c H1 locs1 cells slots Q (F0 m (pc + 3) ls (.int r :: rest))) : W p l e R s m args below meth c H locs cells slots Q (F0 m pc ls st0) := by
  obtain ⟨isC, isR, wc, wn, wr, X0, X1, Y, w', n', fs, rfl, hC, hnd, hA, hC1, hR0, hR1, hn0, hn1, hcv, hfs, hM, hp, hOB⟩ := hO
  have hPx : (Z ++ (X0 ++ Y)).Perm (X0 ++ (Y ++ Z)) := by
    have := List.perm_append_comm (l₁ := Z) (l₂ := X0 ++ Y)
    rwa [List.append_assoc X0 Y Z] at this
  have hPy : (X1 ++ (Y ++ Z)).Perm (Z ++ w') := by
    rw [← List.append_assoc]
    exact (hp.append_right Z).trans List.perm_append_comm
  have hP1 := vp_perm hPx hP
  have h0 : (X0 ++ (Y ++ Z))[0]? = some (t0, .inr (7, fs)) := by rw [List.getElem?_append_left (List.getElem?_eq_some_iff.mp hfs).1]; exact hfs
  exact cl_WVL (X1 := X1) hF hP1 (vd_perm hPx hD) hS hM cw isC hC hnd (va_recv hF.2.1 hP1 (ci := 7) rfl h0) hn hst hsz hrm hdg hcs hA isR hC1 wr hR0 hR1 hn0 hn1 hcv (fun H1 locs1 h1 h2 h3 => kk w' H1 locs1 hOB (vp_perm hPy h1) (vd_perm hPy h2) h3)
theorem cl_SO (hF : FX p m c cc nL s args Ts own D cI cC) (hP : va_P D vwCl (Z ++ w) H) (hD : va_D A (Z ++ w)) (hS : va_S A s.heap H locs) (hT : STX A s) (hO : OO cI cC t0 w0 w (fun wc wn => WrIS l y ws rm D cI cC wc wn (.ref t0 :: As) r) σ') (cw : CallW R s args own RX7 index y bytes maxL ret ws rm 0 0 n) (hn : As.length = n) (hst : st0 = As.reverse ++ .ref t0 :: rest) (hsz : ls.size = nL) (hrm : (rest.map fun v => v.category).sum ≤ 8) (hdg : decode cc pc = .ok (.invokevirtual index, 3)) (hcs : cells ≤ R.cells ∧ slots ≤ R.slots)
    (kk : ∀ (w' : va_W) (H1 : Heap) (locs1 : List Loc), OB cI cC t0 w0 σ' w' → va_P D vwCl (Z ++ w') H1 → va_D A (Z ++ w') → va_S A s.heap H1 locs1 → W p l e R s m args below meth c H1 locs1 cells slots Q (F0 m (pc + 3) ls (.int r :: rest))) : W p l e R s m args below meth c H locs cells slots Q (F0 m pc ls st0) := by
  obtain ⟨isC, isR, wc, wn, wr, X0, X1, Y, w', n', fs, rfl, hC, hnd, hA, hC1, hR0, hR1, hn0, hn1, hcv, hfs, hM, hp, hOB⟩ := hO
  have hPx : (Z ++ (X0 ++ Y)).Perm (X0 ++ (Y ++ Z)) := by
    have := List.perm_append_comm (l₁ := Z) (l₂ := X0 ++ Y)
    rwa [List.append_assoc X0 Y Z] at this
  have hPy : (X1 ++ (Y ++ Z)).Perm (Z ++ w') := by
    rw [← List.append_assoc]
    exact (hp.append_right Z).trans List.perm_append_comm
  have hP1 := vp_perm hPx hP
  have h0 : (X0 ++ (Y ++ Z))[0]? = some (t0, .inr (7, fs)) := by rw [List.getElem?_append_left (List.getElem?_eq_some_iff.mp hfs).1]; exact hfs
  exact cl_SVL (X1 := X1) hF hP1 (vd_perm hPx hD) hS hT hM cw isC hC hnd (va_recv hF.2.1 hP1 (ci := 7) rfl h0) hn hst hsz hrm hdg hcs hA isR hC1 wr hR0 hR1 hn0 hn1 hcv (fun H1 locs1 h1 h2 h3 => kk w' H1 locs1 hOB (vp_perm hPy h1) (vd_perm hPy h2) h3)
theorem cl_RSL (hF : FX p m c cc nL s args Ts own D cI cC) (hP : va_P D vwCl (X0 ++ Y) H) (hD : va_D A (X0 ++ Y)) (hM : RdI l y ws rm D cI cC wc As r) (cw : CallB R s args own index y bytes maxL ret ws rm 0 0 n ∧ (Cond.static y).before args s = true) (isC : List Nat) (hC : isC.map (fun i => X0[i]?) = wc.map some) (hnd : va_nd isC = true) (hn : As.length = n) (hst : st0 = As.reverse ++ rest) (hsz : ls.size = nL) (hrm : (rest.map fun v => v.category).sum ≤ 8) (hdg : decode cc pc = .ok (.invokestatic index, 3)) (hcs : cells ≤ R.cells ∧ slots ≤ R.slots)
    (kk : W p l e R s m args below meth c H locs cells slots Q (F0 m (pc + 3) ls (.int r :: rest))) : W p l e R s m args below meth c H locs cells slots Q (F0 m pc ls st0) :=
  cl_RS hF hP hD hM cw isC (ml_app isC hC) hnd hn hst hsz hrm hdg hcs kk
theorem cl_WSL (hF : FX p m c cc nL s args Ts own D cI cC) (hP : va_P D vwCl (X0 ++ Y) H) (hD : va_D A (X0 ++ Y)) (hS : va_S A H0 H locs) (hM : WrI l y ws rm D cI cC wc wn As r) (cw : CallB R s args own index y bytes maxL ret ws rm 0 0 n ∧ (Cond.static y).before args s = true) (isC : List Nat) (hC : isC.map (fun i => X0[i]?) = wc.map some) (hnd : va_nd isC = true) (hn : As.length = n) (hst : st0 = As.reverse ++ rest) (hsz : ls.size = nL) (hrm : (rest.map fun v => v.category).sum ≤ 8) (hdg : decode cc pc = .ok (.invokestatic index, 3)) (hcs : cells ≤ R.cells ∧ slots ≤ R.slots) (hA : wn.map Prod.fst = wc.map Prod.fst) (isR : List Nat) (hC1 : isC.map (fun i => X1[i]?) = wn.map some) (wr : va_W) (hR0 : isR.map (fun i => X0[i]?) = wr.map some) (hR1 : isR.map (fun i => X1[i]?) = wr.map some) (hn0 : X0.length = nX) (hn1 : X1.length = nX) (hcv : cvr nX isC isR = true)
    (kk : ∀ (H1 : Heap) (locs1 : List Loc), va_P D vwCl (X1 ++ Y) H1 → va_D A (X1 ++ Y) → va_S A H0 H1 locs1 → W p l e R s m args below meth c H1 locs1 cells slots Q (F0 m (pc + 3) ls (.int r :: rest))) : W p l e R s m args below meth c H locs cells slots Q (F0 m pc ls st0) :=
  cl_WS (W1 := X1 ++ Y) hF hP hD hS hM cw isC (ml_app isC hC) hnd hn hst hsz hrm hdg hcs hA (isR ++ (List.range Y.length).map (fun j => nX + j)) (ml_app isC hC1) (wr ++ Y) (ml_both isR hR0 hn0) (ml_both isR hR1 hn1) (nW := nX + Y.length) (by rw [List.length_append, hn1]) (cvr_app hcv) kk
theorem cl_VSL (hF : FX p m c cc nL s args Ts own D cI cC) (hP : va_P D vwCl (X0 ++ Y) H) (hD : va_D A (X0 ++ Y)) (hS : va_S A H0 H locs) (hM : WrV l y ws rm D cI cC wc wn As) (cw : CallB R s args own index y bytes maxL ret ws rm 0 0 n ∧ (Cond.static y).before args s = true) (isC : List Nat) (hC : isC.map (fun i => X0[i]?) = wc.map some) (hnd : va_nd isC = true) (hn : As.length = n) (hst : st0 = As.reverse ++ rest) (hsz : ls.size = nL) (hrm : (rest.map fun v => v.category).sum ≤ 8) (hdg : decode cc pc = .ok (.invokestatic index, 3)) (hcs : cells ≤ R.cells ∧ slots ≤ R.slots) (hA : wn.map Prod.fst = wc.map Prod.fst) (isR : List Nat) (hC1 : isC.map (fun i => X1[i]?) = wn.map some) (wr : va_W) (hR0 : isR.map (fun i => X0[i]?) = wr.map some) (hR1 : isR.map (fun i => X1[i]?) = wr.map some) (hn0 : X0.length = nX) (hn1 : X1.length = nX) (hcv : cvr nX isC isR = true)
    (kk : ∀ (H1 : Heap) (locs1 : List Loc), va_P D vwCl (X1 ++ Y) H1 → va_D A (X1 ++ Y) → va_S A H0 H1 locs1 → W p l e R s m args below meth c H1 locs1 cells slots Q (F0 m (pc + 3) ls rest)) : W p l e R s m args below meth c H locs cells slots Q (F0 m pc ls st0) :=
  cl_VS (W1 := X1 ++ Y) hF hP hD hS hM cw isC (ml_app isC hC) hnd hn hst hsz hrm hdg hcs hA (isR ++ (List.range Y.length).map (fun j => nX + j)) (ml_app isC hC1) (wr ++ Y) (ml_both isR hR0 hn0) (ml_both isR hR1 hn1) (nW := nX + Y.length) (by rw [List.length_append, hn1]) (cvr_app hcv) kk
theorem cl_RSO (hF : FX p m c cc nL s args Ts own D cI cC) (hP : va_P D vwCl (X0 ++ w) H) (hD : va_D A (X0 ++ w)) (hM : RdI l y ws rm D cI cC (Xc ++ w) As r) (cw : CallB R s args own index y bytes maxL ret ws rm 0 0 n ∧ (Cond.static y).before args s = true) (isC : List Nat) (hC : isC.map (fun i => X0[i]?) = Xc.map some) (hn0 : X0.length = nX) (hnd : ndn nX isC = true) (hn : As.length = n) (hst : st0 = As.reverse ++ rest) (hsz : ls.size = nL) (hrm : (rest.map fun v => v.category).sum ≤ 8) (hdg : decode cc pc = .ok (.invokestatic index, 3)) (hcs : cells ≤ R.cells ∧ slots ≤ R.slots)
    (kk : W p l e R s m args below meth c H locs cells slots Q (F0 m (pc + 3) ls (.int r :: rest))) : W p l e R s m args below meth c H locs cells slots Q (F0 m pc ls st0) :=
  cl_RS hF hP hD hM cw (isC ++ (List.range w.length).map (fun j => nX + j)) (ml_both isC hC hn0) (nd_both hnd) hn hst hsz hrm hdg hcs kk
theorem cl_WSO (hF : FX p m c cc nL s args Ts own D cI cC) (hP : va_P D vwCl (X0 ++ w) H) (hD : va_D A (X0 ++ w)) (hS : va_S A s.heap H locs) (hST : STX A s) (hT : OB cI cC t0 w0 σ w) (hM : WrO l y ws rm D cI cC t0 w0 w Xc Xn As r σ') (cw : CallB R s args own index y bytes maxL ret ws rm 0 0 n ∧ (Cond.static y).before args s = true) (isC : List Nat) (hC : isC.map (fun i => X0[i]?) = Xc.map some) (hnd : ndn nX isC = true) (hn : As.length = n) (hst : st0 = As.reverse ++ rest) (hsz : ls.size = nL) (hrm : (rest.map fun v => v.category).sum ≤ 8) (hdg : decode cc pc = .ok (.invokestatic index, 3)) (hcs : cells ≤ R.cells ∧ slots ≤ R.slots) (hA : Xn.map Prod.fst = Xc.map Prod.fst) (isR : List Nat) (hC1 : isC.map (fun i => X1[i]?) = Xn.map some) (wr : va_W) (hR0 : isR.map (fun i => X0[i]?) = wr.map some) (hR1 : isR.map (fun i => X1[i]?) = wr.map some) (hn0 : X0.length = nX) (hn1 : X1.length = nX) (hcv : cvr nX isC isR = true)
    (kk : ∀ (w' : va_W) (H1 : Heap) (locs1 : List Loc), OB cI cC t0 w0 σ' w' → va_P D vwCl (X1 ++ w') H1 → va_D A (X1 ++ w') → va_S A s.heap H1 locs1 → W p l e R s m args below meth c H1 locs1 cells slots Q (F0 m (pc + 3) ls (.int r :: rest))) : W p l e R s m args below meth c H locs cells slots Q (F0 m pc ls st0) := by
  have hC2 : (isC ++ (List.range w.length).map (fun j => nX + j)).map (fun i => (X0 ++ w)[i]?) = (Xc ++ w).map some := ml_both isC hC hn0
  refine va_calli (va_runS (As := As) (rest := rest) (g := F0 m pc ls st0) hF.1 hM cw ⟨pwS.fb, fun U hU hW => ⟨rfl, pw_at hF hP hD _ hC2 (nd_both hnd) hU hW, STX.on hW.alike (fun a h1 h2 => by rw [hU]; exact hS.2.1 a h1 h2) (ad_sub hD _ hC2) hST⟩⟩ rfl hn hsz hst (lv_room hrm) hdg hcs) hS (fun q _ h => ad_sub hD _ hC2 q h) (ad_sub hD _ hC2) (fun r' w' t H1 locs1 ht hvm hr hB hz hk hS => ?_)
  obtain ⟨hr, hOB⟩ := hr
  subst hr
  rw [ht] at hB
  obtain ⟨w2, hp2, ha2⟩ := perm_lift (hOB.pm.trans hT.pm.symm) w' rfl
  have hlen : w2.length = w.length := by
    have := congrArg List.length ha2
    simpa using this
  have hC3 : (isC ++ (List.range w.length).map (fun j => nX + j)).map (fun i => (X1 ++ w2)[i]?) = (Xn ++ w2).map some := by
    rw [← hlen]
    exact ml_both isC hC1 hn1
  have hcv2 : cvr (nX + w.length) (isC ++ (List.range w.length).map (fun j => nX + j)) isR = true := by
    rw [cvr_comm]
    exact cvr_app (by rw [cvr_comm]; exact hcv)
  obtain ⟨hP2, hD2⟩ := nw_all (W1 := X1 ++ w2) (wn := Xn ++ w2) (n := nX + w.length) hP hD _ isR hC2 hC3 (ml_app isR hR0) (ml_app isR hR1) (by simp only [List.map_append, hA, ha2]) (by rw [List.length_append, hn1, hlen]) hcv2 (vp_perm (hp2.symm.append_left Xn) hB) hk
  exact kk w' H1 locs1 hOB (vp_perm (hp2.append_left X1) hP2) (vd_perm (hp2.append_left X1) hD2) hS
end CLO
