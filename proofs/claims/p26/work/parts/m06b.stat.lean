theorem hA2 {wn wc : va_W} (l : List Nat) (h1 : wn.map Prod.fst = l) (h2 : wc.map Prod.fst = l) : wn.map Prod.fst = wc.map Prod.fst := h1.trans h2.symm
/-! the two tables of the settings' ranges -/
def STX (A : Nat → Prop) (U : State) : Prop := ∃ tl tm : Nat, va_Z "DriftGrinders" "SETTING_LEAST" "[I" (.ref tl) A U U.heap ∧ va_T .int tl 6 (fun j => .int (tbL j)) A U U.heap ∧ va_Z "DriftGrinders" "SETTING_MOST" "[I" (.ref tm) A U U.heap ∧ va_T .int tm 6 (fun j => .int (tbM j)) A U U.heap
theorem STX.on {A B : Nat → Prop} {s U : State} (hW : s.vm.Alike U.vm) (hk : ∀ a : Nat, a < s.heap.size → ¬ A a → U.heap[a]? = s.heap[a]?) (hAB : ∀ q, B q → A q) (h : STX A s) : STX B U := by
  obtain ⟨tl, tm, h1, h2, h3, h4⟩ := h
  exact ⟨tl, tm, ((h1.kept hk).narrow hAB).moved hW, ((h2.kept hk).narrow hAB).moved hW, ((h3.kept hk).narrow hAB).moved hW, ((h4.kept hk).narrow hAB).moved hW⟩
def pwS (D : va_G) (cI cC : ClassId) (w : va_W) (U : State) : Prop := pw D cI cC w U ∧ STX (ad w) U
theorem pwS.fb {D : va_G} {cI cC : ClassId} {w : va_W} {as : List Value} : FrameBlind (va_Pc as (pwS D cI cC w)) := fun a U g mk q => by
  obtain ⟨q0, ⟨qP, qK, qD, qN⟩, qT⟩ := q
  exact ⟨q0, ⟨qP, va_K.moved (u := U) (U := U.calling g mk a) (Vm.Alike.refl U.vm) qK, qD, NW.same (u := U) (U := U.calling g mk a) rfl qN⟩, STX.on (s := U) (U := U.calling g mk a) (Vm.Alike.refl U.vm) (fun _ _ _ => rfl) (fun _ h => h) qT⟩
def WrIS (l : Launch) (y : MethodName) (ws : List Cond) (rm : Room) (D : va_G) (cI cC : ClassId) (w w' : va_W) (as : List Value) (r : Int32) : Prop := Met l y ws rm (va_Pc as (pwS D cI cC w)) (va_Qi (fun r' (_ : Unit) => r' = r) (fun _ t => va_P D vwCl w' t.heap) (ad w)) 0 0 (ad w)
section EN2
variable {l : Launch} {D : va_G} {cI cC : ClassId} {y : MethodName} {ws ws' : List Cond} {rm : Room} {cc : ByteArray} {n : Nat} {ty : FieldType} {w w' : va_W} {as : List Value} {r : Int32}
theorem en_WS (hy : plainName y.cls = true) (hw : ws = Cond.code y cc n (some ty) :: ws') (hlen : (lg_sl as).length ≤ n)
    (body : ∀ (p : Program) (e : Env) (s : State) (m : MethodId) (args : Array Value) (below : List Frame) (meth : Method) (c : Code) (Q : State → Prop) (AA : Nat → Prop) (ls : Array Slot), p.tables.exec = Jvm.exec → c.code = cc → c.maxLocals = n → s.vm.findClass y.cls = some m.cls → (∀ w ∈ ws, w.before args s = true) → va_K D vwCl (tya cI cC) s → NW s → va_P D vwCl w s.heap → va_D AA w → va_S AA s.heap s.heap [] → STX AA s → lv_has ls n (lv_args 0 as) →
      (∀ (pc : Nat) (ls : Array Slot) (v : Int32) (H : Heap) (locs : List Loc), decode cc pc = .ok (.ireturn, 1) → narrow ty (.int v) = .int v → v = r → va_P D vwCl w' H → va_S AA s.heap H locs → W p l e rm s m args below meth c H locs 0 0 Q (F0 m pc ls [.int v])) →
      W p l e rm s m args below meth c s.heap [] 0 0 Q (F0 m 0 ls [])) : WrIS l y ws rm D cI cC w w' as r := by
  refine Met.ofW (cc := cc) (maxL := n) (ret := some ty) hy hw ?_
  intro p e s m args below meth c s₁ B hml hv
  obtain ⟨rfl, ⟨hP, hK, hD, hN⟩, hST⟩ := hv
  have hts := atoms_spec (ws := ws) B.pre
  have hown : s.vm.findClass y.cls = some m.cls := findClass_of_methodNamed B.named
  have hlocks := B.notSynchronized
  have hl := lv_entry as hlen
  rw [lg_entry_eq]
  generalize (lg_sl as ++ List.replicate (n - (lg_sl as).length) Slot.unset).toArray = ls at hl ⊢
  refine body p e s m _ below meth c _ (ad w) ls B.exec B.bytes hml hown hts hK hN hP ⟨hD.1, fun k q hq => ad.in hq⟩ va_S.rf hST hl ?_
  intro pc ls v H locs hd hn hv hP hS
  exact W.zret B.exec B.bytes B.returns hn (fun t ht _ => ⟨⟨v, (), rfl, hv, by rw [← ht] at hP; exact hP⟩, hS.F ht⟩) hS.2.2 hd hlocks
end EN2
section CL2
variable {p : Program} {l : Launch} {e : Env} {R : Room} {s : State} {m : MethodId} {args : Array Value} {below : List Frame} {meth : Method} {c : Code} {H : Heap} {locs : List Loc} {cells slots : Nat} {Q : State → Prop}
variable {cc bytes : ByteArray} {pc maxL nL n index b : Nat} {ls : Array Slot} {rest st0 As : List Value} {A : Nat → Prop} {Ts ws : List Cond} {rm : Room} {own C host : String} {y : MethodName} {ret : Option FieldType} {D : va_G} {cI cC : ClassId} {W0 W1 wc wn : va_W} {nW : Nat} {r : Int32}
theorem cl_SV (hF : FX p m c cc nL s args Ts own D cI cC) (hP : va_P D vwCl W0 H) (hD : va_D A W0) (hS : va_S A s.heap H locs) (hT : STX A s) (hM : WrIS l y ws rm D cI cC wc wn (.ref b :: As) r) (cw : CallW R s args own C index y bytes maxL ret ws rm 0 0 n) (isC : List Nat) (hC : isC.map (fun i => W0[i]?) = wc.map some) (hnd : va_nd isC = true) (recv : ∃ cell : Cell, H[b]? = some cell ∧ cell.vm.isStatics = false ∧ s.vm.findClass C = some cell.cls) (hn : As.length = n) (hst : st0 = As.reverse ++ .ref b :: rest) (hsz : ls.size = nL) (hrm : (rest.map fun v => v.category).sum ≤ 8) (hdg : decode cc pc = .ok (.invokevirtual index, 3)) (hcs : cells ≤ R.cells ∧ slots ≤ R.slots) (hA : wn.map Prod.fst = wc.map Prod.fst) (isR : List Nat) (hC1 : isC.map (fun i => W1[i]?) = wn.map some) (wr : va_W) (hR0 : isR.map (fun i => W0[i]?) = wr.map some) (hR1 : isR.map (fun i => W1[i]?) = wr.map some) (hnW : W1.length = nW) (hcv : cvr nW isC isR = true)
    (kk : ∀ (H1 : Heap) (locs1 : List Loc), va_P D vwCl W1 H1 → va_D A W1 → va_S A s.heap H1 locs1 → W p l e R s m args below meth c H1 locs1 cells slots Q (F0 m (pc + 3) ls (.int r :: rest))) : W p l e R s m args below meth c H locs cells slots Q (F0 m pc ls st0) := by
  refine va_calli (va_runV (As := As) (rest := rest) (g := F0 m pc ls st0) hF.1 hM cw ⟨pwS.fb, recv, fun U hU hW => ⟨rfl, pw_at hF hP hD isC hC hnd hU hW, STX.on hW.alike (fun a h1 h2 => by rw [hU]; exact hS.2.1 a h1 h2) (ad_sub hD isC hC) hT⟩⟩ rfl hn hsz hst (lv_room hrm) hdg hcs) hS (fun q _ h => ad_sub hD isC hC q h) (ad_sub hD isC hC) (fun r' u t H1 locs1 ht hvm hr hB hz hk hS => ?_)
  subst hr
  rw [ht] at hB
  obtain ⟨hP2, hD2⟩ := nw_all hP hD isC isR hC hC1 hR0 hR1 hA hnW hcv hB hk
  exact kk H1 locs1 hP2 hD2 hS
end CL2

