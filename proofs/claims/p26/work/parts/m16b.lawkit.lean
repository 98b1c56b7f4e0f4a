/-! calls of the law: only the cells of X may change, those of Y stay -/
theorem ml_app {X Y w : va_W} (is : List Nat) (h : is.map (fun i => X[i]?) = w.map some) : is.map (fun i => (X ++ Y)[i]?) = w.map some := by
  rw [← h]
  refine List.map_congr_left (fun i hi => ?_)
  have h3 : ∃ q, X[i]? = some q := by
    obtain ⟨j, hj⟩ := List.getElem?_of_mem hi
    have h1 : (is.map (fun i => X[i]?))[j]? = (w.map some)[j]? := by rw [h]
    rw [List.getElem?_map, List.getElem?_map, hj] at h1
    cases h2 : w[j]? with
    | none => rw [h2] at h1; cases h1
    | some q => rw [h2] at h1; exact ⟨q, Option.some.inj h1⟩
  obtain ⟨q, hq⟩ := h3
  exact List.getElem?_append_left (List.getElem?_eq_some_iff.mp hq).1
theorem ml_rng (X Y : va_W) {n : Nat} (hn : X.length = n) : ((List.range Y.length).map (fun j => n + j)).map (fun i => (X ++ Y)[i]?) = Y.map some := by
  subst hn
  rw [List.map_map]
  apply List.ext_getElem?
  intro k
  rw [List.getElem?_map, List.getElem?_map]
  rcases Nat.lt_or_ge k Y.length with h | h
  · rw [List.getElem?_range h, List.getElem?_eq_getElem h]
    show some ((X ++ Y)[X.length + k]?) = _
    rw [List.getElem?_append_right (Nat.le_add_right _ _), Nat.add_sub_cancel_left, List.getElem?_eq_getElem h]
    rfl
  · rw [List.getElem?_eq_none (by simpa using h), List.getElem?_eq_none h]
    rfl
theorem ml_both {X Y wr : va_W} {n : Nat} (isR : List Nat) (h : isR.map (fun i => X[i]?) = wr.map some) (hn : X.length = n) : (isR ++ (List.range Y.length).map (fun j => n + j)).map (fun i => (X ++ Y)[i]?) = (wr ++ Y).map some := by
  rw [List.map_append, List.map_append, ml_app isR h, ml_rng X Y hn]
theorem cvr_app {n k : Nat} {isC isR : List Nat} (h : cvr n isC isR = true) : cvr (n + k) isC (isR ++ (List.range k).map (fun j => n + j)) = true := by
  refine List.all_eq_true.mpr (fun i hi => ?_)
  rw [List.mem_range] at hi
  rcases Nat.lt_or_ge i n with q | q
  · have h1 := List.all_eq_true.mp h i (List.mem_range.mpr q)
    simp only [Bool.or_eq_true, List.contains_iff_mem] at h1 ⊢
    rcases h1 with z | z
    · exact Or.inl z
    · exact Or.inr (List.mem_append_left _ z)
  · simp only [Bool.or_eq_true, List.contains_iff_mem]
    refine Or.inr (List.mem_append_right _ (List.mem_map.mpr ⟨i - n, List.mem_range.mpr (by omega), by omega⟩))
section CLL
variable {p : Program} {l : Launch} {e : Env} {R : Room} {s : State} {m : MethodId} {args : Array Value} {below : List Frame} {meth : Method} {c : Code} {H : Heap} {locs : List Loc} {cells slots : Nat} {Q : State → Prop}
variable {cc bytes : ByteArray} {pc maxL nL n index b : Nat} {ls : Array Slot} {rest st0 As : List Value} {A : Nat → Prop} {Ts ws : List Cond} {rm : Room} {own C : String} {y : MethodName} {ret : Option FieldType} {D : va_G} {cI cC : ClassId} {X0 X1 Y wc wn : va_W} {nX : Nat} {r : Int32} {H0 : Heap}
theorem cl_RVL (hF : FX p m c cc nL s args Ts own D cI cC) (hP : va_P D vwCl (X0 ++ Y) H) (hD : va_D A (X0 ++ Y)) (hM : RdI l y ws rm D cI cC wc (.ref b :: As) r) (cw : CallW R s args own C index y bytes maxL ret ws rm 0 0 n) (isC : List Nat) (hC : isC.map (fun i => X0[i]?) = wc.map some) (hnd : va_nd isC = true) (recv : ∃ cell : Cell, H[b]? = some cell ∧ cell.vm.isStatics = false ∧ s.vm.findClass C = some cell.cls) (hn : As.length = n) (hst : st0 = As.reverse ++ .ref b :: rest) (hsz : ls.size = nL) (hrm : (rest.map fun v => v.category).sum ≤ 8) (hdg : decode cc pc = .ok (.invokevirtual index, 3)) (hcs : cells ≤ R.cells ∧ slots ≤ R.slots)
    (kk : W p l e R s m args below meth c H locs cells slots Q (F0 m (pc + 3) ls (.int r :: rest))) : W p l e R s m args below meth c H locs cells slots Q (F0 m pc ls st0) :=
  cl_RV hF hP hD hM cw isC (ml_app isC hC) hnd recv hn hst hsz hrm hdg hcs kk
theorem cl_WVL (hF : FX p m c cc nL s args Ts own D cI cC) (hP : va_P D vwCl (X0 ++ Y) H) (hD : va_D A (X0 ++ Y)) (hS : va_S A H0 H locs) (hM : WrI l y ws rm D cI cC wc wn (.ref b :: As) r) (cw : CallW R s args own C index y bytes maxL ret ws rm 0 0 n) (isC : List Nat) (hC : isC.map (fun i => X0[i]?) = wc.map some) (hnd : va_nd isC = true) (recv : ∃ cell : Cell, H[b]? = some cell ∧ cell.vm.isStatics = false ∧ s.vm.findClass C = some cell.cls) (hn : As.length = n) (hst : st0 = As.reverse ++ .ref b :: rest) (hsz : ls.size = nL) (hrm : (rest.map fun v => v.category).sum ≤ 8) (hdg : decode cc pc = .ok (.invokevirtual index, 3)) (hcs : cells ≤ R.cells ∧ slots ≤ R.slots) (hA : wn.map Prod.fst = wc.map Prod.fst) (isR : List Nat) (hC1 : isC.map (fun i => X1[i]?) = wn.map some) (wr : va_W) (hR0 : isR.map (fun i => X0[i]?) = wr.map some) (hR1 : isR.map (fun i => X1[i]?) = wr.map some) (hn0 : X0.length = nX) (hn1 : X1.length = nX) (hcv : cvr nX isC isR = true)
    (kk : ∀ (H1 : Heap) (locs1 : List Loc), va_P D vwCl (X1 ++ Y) H1 → va_D A (X1 ++ Y) → va_S A H0 H1 locs1 → W p l e R s m args below meth c H1 locs1 cells slots Q (F0 m (pc + 3) ls (.int r :: rest))) : W p l e R s m args below meth c H locs cells slots Q (F0 m pc ls st0) :=
  cl_WV (W1 := X1 ++ Y) hF hP hD hS hM cw isC (ml_app isC hC) hnd recv hn hst hsz hrm hdg hcs hA (isR ++ (List.range Y.length).map (fun j => nX + j)) (ml_app isC hC1) (wr ++ Y) (ml_both isR hR0 hn0) (ml_both isR hR1 hn1) (nW := nX + Y.length) (by rw [List.length_append, hn1]) (cvr_app hcv) kk
theorem cl_SVL (hF : FX p m c cc nL s args Ts own D cI cC) (hP : va_P D vwCl (X0 ++ Y) H) (hD : va_D A (X0 ++ Y)) (hS : va_S A s.heap H locs) (hT : STX A s) (hM : WrIS l y ws rm D cI cC wc wn (.ref b :: As) r) (cw : CallW R s args own C index y bytes maxL ret ws rm 0 0 n) (isC : List Nat) (hC : isC.map (fun i => X0[i]?) = wc.map some) (hnd : va_nd isC = true) (recv : ∃ cell : Cell, H[b]? = some cell ∧ cell.vm.isStatics = false ∧ s.vm.findClass C = some cell.cls) (hn : As.length = n) (hst : st0 = As.reverse ++ .ref b :: rest) (hsz : ls.size = nL) (hrm : (rest.map fun v => v.category).sum ≤ 8) (hdg : decode cc pc = .ok (.invokevirtual index, 3)) (hcs : cells ≤ R.cells ∧ slots ≤ R.slots) (hA : wn.map Prod.fst = wc.map Prod.fst) (isR : List Nat) (hC1 : isC.map (fun i => X1[i]?) = wn.map some) (wr : va_W) (hR0 : isR.map (fun i => X0[i]?) = wr.map some) (hR1 : isR.map (fun i => X1[i]?) = wr.map some) (hn0 : X0.length = nX) (hn1 : X1.length = nX) (hcv : cvr nX isC isR = true)
    (kk : ∀ (H1 : Heap) (locs1 : List Loc), va_P D vwCl (X1 ++ Y) H1 → va_D A (X1 ++ Y) → va_S A s.heap H1 locs1 → W p l e R s m args below meth c H1 locs1 cells slots Q (F0 m (pc + 3) ls (.int r :: rest))) : W p l e R s m args below meth c H locs cells slots Q (F0 m pc ls st0) :=
  cl_SV (W1 := X1 ++ Y) hF hP hD hS hT hM cw isC (ml_app isC hC) hnd recv hn hst hsz hrm hdg hcs hA (isR ++ (List.range Y.length).map (fun j => nX + j)) (ml_app isC hC1) (wr ++ Y) (ml_both isR hR0 hn0) (ml_both isR hR1 hn1) (nW := nX + Y.length) (by rw [List.length_append, hn1]) (cvr_app hcv) kk
end CLL
