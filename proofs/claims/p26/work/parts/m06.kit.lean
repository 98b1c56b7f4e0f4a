/-! Rows of my own over the kit: contracts of one shape, calls by one row each. -/
def nws : List Cond := [.fieldLinkNest RX3 28 "DriftGrinders$Row" "length" "I" "DriftGrinders", .fieldLinkNest RX1 152 "DriftGrinders$Row" "length" "I" "DriftGrinders", .fieldLinkNest RX3 24 "DriftGrinders$Row" "total" "I" "DriftGrinders", .fieldLinkNest RX1 108 "DriftGrinders$Row" "total" "I" "DriftGrinders", .fieldLinkNest RX1 137 "DriftGrinders$Burr" "dial" "I" "DriftGrinders", .fieldLinkNest RX1 140 "DriftGrinders$Burr" "warmth" "I" "DriftGrinders", .fieldLinkNest RX1 194 "DriftGrinders$Shots" "kept" "I" "DriftGrinders", .fieldLinkNest RX1 234 "DriftGrinders$Shots" "made" "I" "DriftGrinders", .fieldLinkNest RX7 81 "DriftGrinders$Grinder" "hopper" "LDriftGrinders$Hopper;" "DriftGrinders", .fieldLinkNest RX7 89 "DriftGrinders$Grinder" "chute" "LDriftGrinders$Row;" "DriftGrinders", .fieldLinkNest RX7 93 "DriftGrinders$Grinder" "basket" "LDriftGrinders$Row;" "DriftGrinders", .fieldLinkNest RX7 100 "DriftGrinders$Grinder" "shots" "LDriftGrinders$Shots;" "DriftGrinders", .fieldLinkNest RX7 104 "DriftGrinders$Grinder" "settings" "[I" "DriftGrinders", .fieldLinkNest RX7 129 "DriftGrinders$History" "states" "I" "DriftGrinders", .fieldLinkNest RX7 133 "DriftGrinders$Orders" "length" "I" "DriftGrinders", .fieldLinkNest RX1 200 "DriftGrinders" "SETTING_LEAST" "[I" "DriftGrinders", .fieldLinkNest RX1 203 "DriftGrinders" "SETTING_MOST" "[I" "DriftGrinders", .methodLinkNest RX7 9 ⟨"DriftGrinders$History", "<init>", "()V"⟩ "DriftGrinders", .methodLinkNest RX2 11 ⟨"DriftGrinders$Grinder", "<init>", "()V"⟩ "DriftGrinders", .methodLinkNest RX1 11 ⟨"DriftGrinders$Hopper", "<init>", "()V"⟩ "DriftGrinders", .methodLinkNest RX1 20 ⟨"DriftGrinders$Burr", "<init>", "()V"⟩ "DriftGrinders", .methodLinkNest RX1 42 ⟨"DriftGrinders$Shots", "<init>", "()V"⟩ "DriftGrinders", .methodLinkNest RX7 18 ⟨"DriftGrinders$Orders", "<init>", "()V"⟩ "DriftGrinders", .methodLinkNest RX7 25 ⟨"DriftGrinders$Grinder", "<init>", "()V"⟩ "DriftGrinders", .methodLinkNest RX1 182 ⟨"DriftGrinders", "kindOfMark", "(I)I"⟩ "DriftGrinders", .methodLinkNest RX1 207 ⟨"DriftGrinders", "burrOfMark", "(I)I"⟩ "DriftGrinders", .methodLinkNest RX1 188 ⟨"DriftGrinders", "gapOfMark", "(I)I"⟩ "DriftGrinders", .methodLinkNest RX1 191 ⟨"DriftGrinders", "flowOf", "(II)I"⟩ "DriftGrinders", .methodLinkNest RX0 37 ⟨"DriftGrinders", "fallOf", "(I)I"⟩ "DriftGrinders", .methodLinkNest RX1 89 ⟨"DriftGrinders", "isZeroOrOne", "(I)Z"⟩ "DriftGrinders", .methodLinkNest RX3 46 ⟨"DriftGrinders", "markOf", "(III)I"⟩ "DriftGrinders"]
def NW (U : State) : Prop := ∀ w ∈ nws, va_Nw w U
def nw_is : Cond → Bool
  | .fieldLinkNest .. => true
  | .methodLinkNest .. => true
  | _ => false
theorem nws_ok : ∀ w ∈ nws, nw_is w = true := by decide +kernel
theorem nw_warm {w : Cond} (h : nw_is w = true) {s U : State} (hW : s.WarmedH U.vm) (hZ : va_Nw w s) : va_Nw w U := by
  cases w <;> first | exact va_Nw.warmF hW hZ | exact va_Nw.warmM hW hZ | cases h
theorem nw_on {w : Cond} (h : nw_is w = true) : w.onTables = true := by
  cases w <;> first | rfl | cases h
theorem NW.warm {s U : State} (hW : s.WarmedH U.vm) (h : NW s) : NW U := fun w hw => nw_warm (nws_ok w hw) hW (h w hw)
theorem NW.same {u U : State} (hvm : u.vm = U.vm) (h : NW u) : NW U := fun w hw => va_Nw.same (nw_on (nws_ok w hw)) hvm (h w hw)
theorem NW.get {U : State} (h : NW U) (i : Nat) {w : Cond} (hi : nws[i]? = some w) {A : Array Value} : w.before A U = true := va_Nw.use (nw_on (nws_ok w (List.mem_of_getElem? hi))) (h w (List.mem_of_getElem? hi))
theorem NW.nw {U : State} (h : NW U) (i : Nat) {w : Cond} (hi : nws[i]? = some w) : va_Nw w U := h w (List.mem_of_getElem? hi)
/-! the text of a method as a partial function -/
theorem gt_ne {x y : Int32} {k : Int} (h : ¬ x = y) (hy : y.toInt = k) : x.toInt ≠ k := fun q => h (Int32.toInt_inj.mp (q.trans hy.symm))
/-! contracts -/
abbrev tya (cI cC : ClassId) : List (ClassId × FieldType) := [(cI, .int), (cC, .char)]
def pw (D : va_G) (cI cC : ClassId) (w : va_W) (U : State) : Prop := va_P D vwCl w U.heap ∧ va_K D vwCl (tya cI cC) U ∧ va_D (fun _ => True) w ∧ NW U
def ad (w : va_W) : Nat → Prop := fun q => ∃ (k : Nat) (e : va_E), w[k]? = some (q, e)
theorem ad.in {w : va_W} {k : Nat} {q : Nat × va_E} (h : w[k]? = some q) : ad w q.1 := ⟨k, q.2, h⟩
theorem pw.fb {D : va_G} {cI cC : ClassId} {w : va_W} {as : List Value} : FrameBlind (va_Pc as (pw D cI cC w)) := fun a U g mk q => by
  obtain ⟨q0, qP, qK, qD, qN⟩ := q
  exact ⟨q0, qP, va_K.moved (u := U) (U := U.calling g mk a) (Vm.Alike.refl U.vm) qK, qD, NW.same (u := U) (U := U.calling g mk a) rfl qN⟩
def RdI (l : Launch) (y : MethodName) (ws : List Cond) (rm : Room) (D : va_G) (cI cC : ClassId) (w : va_W) (as : List Value) (r : Int32) : Prop := Met l y ws rm (va_Pc as (pw D cI cC w)) (vp_Si (fun r' => r' = r)) 0 0 (fun _ => False)
def RdA (l : Launch) (y : MethodName) (ws : List Cond) (rm : Room) (D : va_G) (cI cC : ClassId) (w : va_W) (as : List Value) (r : Nat) : Prop := Met l y ws rm (va_Pc as (pw D cI cC w)) (va_Sr (fun k => k = r) (fun k => .ref k)) 0 0 (fun _ => False)
def WrI (l : Launch) (y : MethodName) (ws : List Cond) (rm : Room) (D : va_G) (cI cC : ClassId) (w w' : va_W) (as : List Value) (r : Int32) : Prop := Met l y ws rm (va_Pc as (pw D cI cC w)) (va_Qi (fun r' (_ : Unit) => r' = r) (fun _ t => va_P D vwCl w' t.heap) (ad w)) 0 0 (ad w)
def WrV (l : Launch) (y : MethodName) (ws : List Cond) (rm : Room) (D : va_G) (cI cC : ClassId) (w w' : va_W) (as : List Value) : Prop := Met l y ws rm (va_Pc as (pw D cI cC w)) (va_Qv (fun (_ : Unit) => True) (fun _ t => va_P D vwCl w' t.heap) (ad w)) 0 0 (ad w)
def WrA (l : Launch) (y : MethodName) (ws : List Cond) (rm : Room) (D : va_G) (cI cC : ClassId) (w w' : va_W) (as : List Value) (r : Nat) : Prop := Met l y ws rm (va_Pc as (pw D cI cC w)) (va_Qr (fun (_ : Unit) => True) (fun _ k t => k = r ∧ va_P D vwCl w' t.heap) (ad w)) 0 0 (ad w)
section EN
variable {l : Launch} {D : va_G} {cI cC : ClassId} {y : MethodName} {ws ws' : List Cond} {rm : Room} {cc : ByteArray} {n : Nat} {ty : FieldType} {w w' : va_W} {as : List Value} {r : Int32} {ra : Nat}
theorem en_R (hy : plainName y.cls = true) (hw : ws = Cond.code y cc n (some ty) :: ws') (hlen : (lg_sl as).length ≤ n)
    (body : ∀ (p : Program) (e : Env) (s : State) (m : MethodId) (args : Array Value) (below : List Frame) (meth : Method) (c : Code) (Q : State → Prop) (AA : Nat → Prop) (ls : Array Slot), p.tables.exec = Jvm.exec → c.code = cc → c.maxLocals = n → s.vm.findClass y.cls = some m.cls → (∀ w ∈ ws, w.before args s = true) → va_K D vwCl (tya cI cC) s → NW s → va_P D vwCl w s.heap → va_D AA w → lv_has ls n (lv_args 0 as) →
      (∀ (pc : Nat) (ls : Array Slot) (v : Int32), decode cc pc = .ok (.ireturn, 1) → narrow ty (.int v) = .int v → v = r → W p l e rm s m args below meth c s.heap [] 0 0 Q (F0 m pc ls [.int v])) →
      W p l e rm s m args below meth c s.heap [] 0 0 Q (F0 m 0 ls [])) : RdI l y ws rm D cI cC w as r := by
  refine Met.ofW (cc := cc) (maxL := n) (ret := some ty) hy hw ?_
  intro p e s m args below meth c s₁ B hml hv
  obtain ⟨rfl, hP, hK, hD, hN⟩ := hv
  have hts := atoms_spec (ws := ws) B.pre
  have hown : s.vm.findClass y.cls = some m.cls := findClass_of_methodNamed B.named
  have hlocks := B.notSynchronized
  have hl := lv_entry as hlen
  rw [lg_entry_eq]
  generalize (lg_sl as ++ List.replicate (n - (lg_sl as).length) Slot.unset).toArray = ls at hl ⊢
  refine body p e s m _ below meth c _ (ad w) ls B.exec B.bytes hml hown hts hK hN hP ⟨hD.1, fun k q hq => ad.in hq⟩ hl ?_
  intro pc ls v hd hn hv
  exact W.zret B.exec B.bytes B.returns hn (fun t ht _ => ⟨v, rfl, hv, ht⟩) (fun q h => by cases h) hd hlocks
theorem en_A {C : String} (hty : ty = .object C) (hy : plainName y.cls = true) (hw : ws = Cond.code y cc n (some ty) :: ws') (hlen : (lg_sl as).length ≤ n)
    (body : ∀ (p : Program) (e : Env) (s : State) (m : MethodId) (args : Array Value) (below : List Frame) (meth : Method) (c : Code) (Q : State → Prop) (AA : Nat → Prop) (ls : Array Slot), p.tables.exec = Jvm.exec → c.code = cc → c.maxLocals = n → s.vm.findClass y.cls = some m.cls → (∀ w ∈ ws, w.before args s = true) → va_K D vwCl (tya cI cC) s → NW s → va_P D vwCl w s.heap → va_D AA w → lv_has ls n (lv_args 0 as) →
      (∀ (pc : Nat) (ls : Array Slot) (v : Nat), decode cc pc = .ok (.areturn, 1) → v = ra → W p l e rm s m args below meth c s.heap [] 0 0 Q (F0 m pc ls [.ref v])) →
      W p l e rm s m args below meth c s.heap [] 0 0 Q (F0 m 0 ls [])) : RdA l y ws rm D cI cC w as ra := by
  refine Met.ofW (cc := cc) (maxL := n) (ret := some ty) hy hw ?_
  intro p e s m args below meth c s₁ B hml hv
  obtain ⟨rfl, hP, hK, hD, hN⟩ := hv
  have hts := atoms_spec (ws := ws) B.pre
  have hown : s.vm.findClass y.cls = some m.cls := findClass_of_methodNamed B.named
  have hlocks := B.notSynchronized
  have hl := lv_entry as hlen
  rw [lg_entry_eq]
  generalize (lg_sl as ++ List.replicate (n - (lg_sl as).length) Slot.unset).toArray = ls at hl ⊢
  refine body p e s m _ below meth c _ (ad w) ls B.exec B.bytes hml hown hts hK hN hP ⟨hD.1, fun k q hq => ad.in hq⟩ hl ?_
  intro pc ls v hd hv
  exact W.aret B.exec B.bytes B.returns (Or.inl ⟨C, hty⟩) (Or.inr ⟨v, rfl⟩) (fun t ht _ => ⟨v, rfl, hv, ht⟩) (fun q h => by cases h) hd hlocks
theorem en_W (hy : plainName y.cls = true) (hw : ws = Cond.code y cc n (some ty) :: ws') (hlen : (lg_sl as).length ≤ n)
    (body : ∀ (p : Program) (e : Env) (s : State) (m : MethodId) (args : Array Value) (below : List Frame) (meth : Method) (c : Code) (Q : State → Prop) (AA : Nat → Prop) (ls : Array Slot), p.tables.exec = Jvm.exec → c.code = cc → c.maxLocals = n → s.vm.findClass y.cls = some m.cls → (∀ w ∈ ws, w.before args s = true) → va_K D vwCl (tya cI cC) s → NW s → va_P D vwCl w s.heap → va_D AA w → va_S AA s.heap s.heap [] → lv_has ls n (lv_args 0 as) →
      (∀ (pc : Nat) (ls : Array Slot) (v : Int32) (H : Heap) (locs : List Loc), decode cc pc = .ok (.ireturn, 1) → narrow ty (.int v) = .int v → v = r → va_P D vwCl w' H → va_S AA s.heap H locs → W p l e rm s m args below meth c H locs 0 0 Q (F0 m pc ls [.int v])) →
      W p l e rm s m args below meth c s.heap [] 0 0 Q (F0 m 0 ls [])) : WrI l y ws rm D cI cC w w' as r := by
  refine Met.ofW (cc := cc) (maxL := n) (ret := some ty) hy hw ?_
  intro p e s m args below meth c s₁ B hml hv
  obtain ⟨rfl, hP, hK, hD, hN⟩ := hv
  have hts := atoms_spec (ws := ws) B.pre
  have hown : s.vm.findClass y.cls = some m.cls := findClass_of_methodNamed B.named
  have hlocks := B.notSynchronized
  have hl := lv_entry as hlen
  rw [lg_entry_eq]
  generalize (lg_sl as ++ List.replicate (n - (lg_sl as).length) Slot.unset).toArray = ls at hl ⊢
  refine body p e s m _ below meth c _ (ad w) ls B.exec B.bytes hml hown hts hK hN hP ⟨hD.1, fun k q hq => ad.in hq⟩ va_S.rf hl ?_
  intro pc ls v H locs hd hn hv hP hS
  exact W.zret B.exec B.bytes B.returns hn (fun t ht _ => ⟨⟨v, (), rfl, hv, by rw [← ht] at hP; exact hP⟩, hS.F ht⟩) hS.2.2 hd hlocks
theorem en_V (hy : plainName y.cls = true) (hw : ws = Cond.code y cc n none :: ws') (hlen : (lg_sl as).length ≤ n)
    (body : ∀ (p : Program) (e : Env) (s : State) (m : MethodId) (args : Array Value) (below : List Frame) (meth : Method) (c : Code) (Q : State → Prop) (AA : Nat → Prop) (ls : Array Slot), p.tables.exec = Jvm.exec → c.code = cc → c.maxLocals = n → s.vm.findClass y.cls = some m.cls → (∀ w ∈ ws, w.before args s = true) → va_K D vwCl (tya cI cC) s → NW s → va_P D vwCl w s.heap → va_D AA w → va_S AA s.heap s.heap [] → lv_has ls n (lv_args 0 as) →
      (∀ (pc : Nat) (ls : Array Slot) (H : Heap) (locs : List Loc), decode cc pc = .ok (.return_, 1) → va_P D vwCl w' H → va_S AA s.heap H locs → W p l e rm s m args below meth c H locs 0 0 Q (F0 m pc ls [])) →
      W p l e rm s m args below meth c s.heap [] 0 0 Q (F0 m 0 ls [])) : WrV l y ws rm D cI cC w w' as := by
  refine Met.ofW (cc := cc) (maxL := n) (ret := none) hy hw ?_
  intro p e s m args below meth c s₁ B hml hv
  obtain ⟨rfl, hP, hK, hD, hN⟩ := hv
  have hts := atoms_spec (ws := ws) B.pre
  have hown : s.vm.findClass y.cls = some m.cls := findClass_of_methodNamed B.named
  have hlocks := B.notSynchronized
  have hl := lv_entry as hlen
  rw [lg_entry_eq]
  generalize (lg_sl as ++ List.replicate (n - (lg_sl as).length) Slot.unset).toArray = ls at hl ⊢
  refine body p e s m _ below meth c _ (ad w) ls B.exec B.bytes hml hown hts hK hN hP ⟨hD.1, fun k q hq => ad.in hq⟩ va_S.rf hl ?_
  intro pc ls H locs hd hP hS
  exact W.vret B.exec B.bytes B.returns (fun t ht _ => ⟨⟨(), rfl, trivial, by rw [← ht] at hP; exact hP⟩, hS.F ht⟩) hS.2.2 hd hlocks
theorem en_WA {C : String} (hty : ty = .object C) (hy : plainName y.cls = true) (hw : ws = Cond.code y cc n (some ty) :: ws') (hlen : (lg_sl as).length ≤ n)
    (body : ∀ (p : Program) (e : Env) (s : State) (m : MethodId) (args : Array Value) (below : List Frame) (meth : Method) (c : Code) (Q : State → Prop) (AA : Nat → Prop) (ls : Array Slot), p.tables.exec = Jvm.exec → c.code = cc → c.maxLocals = n → s.vm.findClass y.cls = some m.cls → (∀ w ∈ ws, w.before args s = true) → va_K D vwCl (tya cI cC) s → NW s → va_P D vwCl w s.heap → va_D AA w → va_S AA s.heap s.heap [] → lv_has ls n (lv_args 0 as) →
      (∀ (pc : Nat) (ls : Array Slot) (v : Nat) (H : Heap) (locs : List Loc), decode cc pc = .ok (.areturn, 1) → v = ra → va_P D vwCl w' H → va_S AA s.heap H locs → W p l e rm s m args below meth c H locs 0 0 Q (F0 m pc ls [.ref v])) →
      W p l e rm s m args below meth c s.heap [] 0 0 Q (F0 m 0 ls [])) : WrA l y ws rm D cI cC w w' as ra := by
  refine Met.ofW (cc := cc) (maxL := n) (ret := some ty) hy hw ?_
  intro p e s m args below meth c s₁ B hml hv
  obtain ⟨rfl, hP, hK, hD, hN⟩ := hv
  have hts := atoms_spec (ws := ws) B.pre
  have hown : s.vm.findClass y.cls = some m.cls := findClass_of_methodNamed B.named
  have hlocks := B.notSynchronized
  have hl := lv_entry as hlen
  rw [lg_entry_eq]
  generalize (lg_sl as ++ List.replicate (n - (lg_sl as).length) Slot.unset).toArray = ls at hl ⊢
  refine body p e s m _ below meth c _ (ad w) ls B.exec B.bytes hml hown hts hK hN hP ⟨hD.1, fun k q hq => ad.in hq⟩ va_S.rf hl ?_
  intro pc ls v H locs hd hv hP hS
  exact W.aret B.exec B.bytes B.returns (Or.inl ⟨C, hty⟩) (Or.inr ⟨v, rfl⟩) (fun t ht _ => ⟨⟨(), v, rfl, trivial, hv, by rw [← ht] at hP; exact hP⟩, hS.F ht⟩) hS.2.2 hd hlocks
end EN
/-! worlds: cells written back to their places -/
def pu : List Nat → va_W → va_W → va_W
  | i :: is, q :: w, W => pu is w (W.set i q)
  | _, _, W => W
theorem pu_ad {A : Nat → Prop} : ∀ (is : List Nat) (wc wn W : va_W), is.map (fun i => W[i]?) = wc.map some → wn.map Prod.fst = wc.map Prod.fst → va_nd is = true → va_D A W → va_D A (pu is wn W)
  | [], wc, [], W, _, _, _, hD => hD
  | [], wc, q :: wn, W, _, _, _, hD => hD
  | i :: is, wc, [], W, _, _, _, hD => hD
  | i :: is, [], q :: wn, W, hC, hA, _, hD => by simp at hA
  | i :: is, c :: wc, q :: wn, W, hC, hA, hn, hD => by
    simp only [List.map_cons, List.cons.injEq] at hC hA
    simp only [va_nd, Bool.and_eq_true, decide_eq_true_eq] at hn
    have hi : W[i]? = some (q.1, c.2) := by rw [hC.1, hA.1]
    refine pu_ad is wc wn (W.set i q) ?_ hA.2 hn.2 (va_D.set (a := q.1) (e := q.2) hD hi)
    rw [← hC.2]
    refine List.map_congr_left (fun j hj => ?_)
    rw [List.getElem?_set_ne (show i ≠ j from fun e => hn.1 (by rw [e]; exact hj))]
theorem pu_P {A : Nat → Prop} {D : va_G} {H1 : Heap} (hold : va_W) (hP1 : ∀ q ∈ hold, va_at D vwCl q H1) : ∀ (is : List Nat) (wc wn W : va_W), (∀ q ∈ wn, q ∈ hold) → is.map (fun i => W[i]?) = wc.map some → wn.map Prod.fst = wc.map Prod.fst → is.length = wn.length → va_nd is = true → va_D A W → (∀ (k : Nat) (q : Nat × va_E), W[k]? = some q → k ∉ is → va_at D vwCl q H1) → va_P D vwCl (pu is wn W) H1
  | [], wc, [], W, _, _, _, _, _, _, h => fun k q hq => h k q hq (by simp)
  | [], wc, q :: wn, W, _, _, _, hl, _, _, _ => by simp at hl
  | i :: is, wc, [], W, _, _, _, hl, _, _, _ => by simp at hl
  | i :: is, [], q :: wn, W, _, hC, hA, _, _, _, _ => by simp at hA
  | i :: is, c :: wc, q :: wn, W, hm, hC, hA, hl, hn, hD, h => by
    simp only [List.map_cons, List.cons.injEq] at hC hA
    simp only [va_nd, Bool.and_eq_true, decide_eq_true_eq] at hn
    have hi : W[i]? = some (q.1, c.2) := by rw [hC.1, hA.1]
    have hlt := (List.getElem?_eq_some_iff.mp hi).1
    refine pu_P hold hP1 is wc wn (W.set i q) (fun x hx => hm x (List.mem_cons_of_mem _ hx)) ?_ hA.2 (by simpa using hl) hn.2 (va_D.set (a := q.1) (e := q.2) hD hi) ?_
    · rw [← hC.2]
      refine List.map_congr_left (fun j hj => ?_)
      rw [List.getElem?_set_ne (show i ≠ j from fun e => hn.1 (by rw [e]; exact hj))]
    · intro k x hk hk2
      by_cases e : i = k
      · subst e
        rw [List.getElem?_set_self hlt] at hk
        cases hk
        exact hP1 _ (hm _ List.mem_cons_self)
      · rw [List.getElem?_set_ne e] at hk
        exact h k x hk (fun z => by rcases List.mem_cons.mp z with z | z; exact e z.symm; exact hk2 z)
theorem ad_sub {W wc : va_W} {A : Nat → Prop} (hD : va_D A W) (isC : List Nat) (hC : isC.map (fun i => W[i]?) = wc.map some) : ∀ q, ad wc q → A q := by
  intro q ⟨k, e, hk⟩
  have h1 : (isC.map (fun i => W[i]?))[k]? = some (some (q, e)) := by rw [hC, List.getElem?_map, hk]; rfl
  rw [List.getElem?_map] at h1
  cases hi : isC[k]? with
  | none => rw [hi] at h1; cases h1
  | some i => rw [hi] at h1; exact hD.2 i (q, e) (Option.some.inj h1)
theorem w_of {W wc : va_W} {D : va_G} {H : Heap} (hP : va_P D vwCl W H) (isC : List Nat) (hC : isC.map (fun i => W[i]?) = wc.map some) : va_P D vwCl wc H := by
  intro k q hk
  have h1 : (isC.map (fun i => W[i]?))[k]? = some (some q) := by rw [hC, List.getElem?_map, hk]; rfl
  rw [List.getElem?_map] at h1
  cases hi : isC[k]? with
  | none => rw [hi] at h1; cases h1
  | some i => rw [hi] at h1; exact hP i q (Option.some.inj h1)
theorem pu_all {A : Nat → Prop} {D : va_G} {H H1 : Heap} {W wc wn : va_W} (hP : va_P D vwCl W H) (hD : va_D A W) (isC : List Nat) (hC : isC.map (fun i => W[i]?) = wc.map some) (hA : wn.map Prod.fst = wc.map Prod.fst) (hnd : va_nd isC = true) (hP1 : va_P D vwCl wn H1) (hk : ∀ q : Nat, q < H.size → ¬ ad wc q → H1[q]? = H[q]?) : va_P D vwCl (pu isC wn W) H1 := by
  refine pu_P (A := A) wn (fun q hq => by obtain ⟨k, hk⟩ := List.getElem?_of_mem hq; exact hP1 k q hk) isC wc wn W (fun q h => h) hC hA ?_ hnd hD ?_
  · have e1 := congrArg List.length hC
    have e2 := congrArg List.length hA
    simp only [List.length_map] at e1 e2
    omega
  · intro k q hq hk2
    refine (hP k q hq).kept (hk q.1 ((hP k q hq).lt) ?_)
    rintro ⟨j, e, hj⟩
    have h1 : (isC.map (fun i => W[i]?))[j]? = some (some (q.1, e)) := by rw [hC, List.getElem?_map, hj]; rfl
    rw [List.getElem?_map] at h1
    cases hi : isC[j]? with
    | none => rw [hi] at h1; cases h1
    | some i =>
      rw [hi] at h1
      have e1 := hD.1 i k (q.1, e) q (Option.some.inj h1) hq rfl
      exact hk2 (e1 ▸ List.mem_of_getElem? hi)
/-- the caller's world behind a call, written out: the callee's cells at their places, the others as they were -/
def cvr (n : Nat) (is js : List Nat) : Bool := (List.range n).all (fun k => is.contains k || js.contains k)
theorem nw_all {A : Nat → Prop} {D : va_G} {H H1 : Heap} {W0 W1 wc wn wr : va_W} {n : Nat} (hP : va_P D vwCl W0 H) (hD : va_D A W0) (isC isR : List Nat) (hC : isC.map (fun i => W0[i]?) = wc.map some) (hC1 : isC.map (fun i => W1[i]?) = wn.map some) (hR0 : isR.map (fun i => W0[i]?) = wr.map some) (hR1 : isR.map (fun i => W1[i]?) = wr.map some) (hA : wn.map Prod.fst = wc.map Prod.fst) (hn : W1.length = n) (hcv : cvr n isC isR = true) (hP1 : va_P D vwCl wn H1) (hk : ∀ q : Nat, q < H.size → ¬ ad wc q → H1[q]? = H[q]?) : va_P D vwCl W1 H1 ∧ va_D A W1 := by
  have atC : ∀ {W w : va_W}, isC.map (fun i => W[i]?) = w.map some → ∀ (j k : Nat), isC[j]? = some k → W[k]? = w[j]? := by
    intro W w hw j k hj
    have h1 : (isC.map (fun i => W[i]?))[j]? = (w.map some)[j]? := by rw [hw]
    rw [List.getElem?_map, List.getElem?_map, hj] at h1
    cases h2 : w[j]? with
    | none => rw [h2] at h1; cases h1
    | some q => rw [h2] at h1; exact Option.some.inj h1
  have atR : ∀ k ∈ isR, W1[k]? = W0[k]? := by
    intro k hk2
    obtain ⟨j, hj⟩ := List.getElem?_of_mem hk2
    have h1 : (isR.map (fun i => W1[i]?))[j]? = (isR.map (fun i => W0[i]?))[j]? := by rw [hR1, hR0]
    rw [List.getElem?_map, List.getElem?_map, hj] at h1
    exact Option.some.inj h1
  have cov : ∀ (k : Nat) (q : Nat × va_E), W1[k]? = some q → k ∈ isC ∨ k ∈ isR := by
    intro k q hq
    have hl : k < n := hn ▸ (List.getElem?_eq_some_iff.mp hq).1
    have h1 := List.all_eq_true.mp hcv k (List.mem_range.mpr hl)
    simpa using h1
  have adr : ∀ (j : Nat) (q : Nat × va_E), wn[j]? = some q → ∃ q0, wc[j]? = some q0 ∧ q0.1 = q.1 := by
    intro j q hq
    have h1 : (wn.map Prod.fst)[j]? = (wc.map Prod.fst)[j]? := by rw [hA]
    rw [List.getElem?_map, List.getElem?_map, hq] at h1
    cases h2 : wc[j]? with
    | none => rw [h2] at h1; cases h1
    | some q0 => rw [h2] at h1; exact ⟨q0, rfl, (Option.some.inj h1).symm⟩
  have key : ∀ (k : Nat) (q : Nat × va_E), W1[k]? = some q → ∃ q0, W0[k]? = some q0 ∧ q0.1 = q.1 := by
    intro k q hq
    rcases cov k q hq with h | h
    · obtain ⟨j, hj⟩ := List.getElem?_of_mem h
      obtain ⟨q0, h2, h3⟩ := adr j q ((atC hC1 j k hj).symm.trans hq)
      exact ⟨q0, (atC hC j k hj).trans h2, h3⟩
    · exact ⟨q, (atR k h).symm.trans hq, rfl⟩
  refine ⟨fun k q hq => ?_, fun i j x y hi hj hxy => ?_, fun k q hq => ?_⟩
  · by_cases h : k ∈ isC
    · obtain ⟨j, hj⟩ := List.getElem?_of_mem h
      exact hP1 j q ((atC hC1 j k hj).symm.trans hq)
    · have h0 : W0[k]? = some q := (atR k ((cov k q hq).resolve_left h)).symm.trans hq
      refine (hP k q h0).kept (hk q.1 ((hP k q h0).lt) ?_)
      rintro ⟨j, e, hj⟩
      have hj2 : j < isC.length := by
        have := congrArg List.length hC
        simp only [List.length_map] at this
        rw [this]
        exact (List.getElem?_eq_some_iff.mp hj).1
      have h1 := atC hC j isC[j] (List.getElem?_eq_getElem hj2)
      rw [hj] at h1
      exact h (hD.1 isC[j] k (q.1, e) q h1 h0 rfl ▸ List.getElem_mem hj2)
  · obtain ⟨x0, h1, h2⟩ := key i x hi
    obtain ⟨y0, h3, h4⟩ := key j y hj
    exact hD.1 i j x0 y0 h1 h3 (h2.trans (hxy.trans h4.symm))
  · obtain ⟨q0, h1, h2⟩ := key k q hq
    rw [← h2]
    exact hD.2 k q0 h1
section CL
variable {p : Program} {l : Launch} {e : Env} {R : Room} {s : State} {m : MethodId} {args : Array Value} {below : List Frame} {meth : Method} {c : Code} {H : Heap} {locs : List Loc} {cells slots : Nat} {Q : State → Prop}
variable {cc bytes : ByteArray} {pc maxL nL n index b : Nat} {ls : Array Slot} {rest st0 As : List Value} {A : Nat → Prop} {Ts ws : List Cond} {rm : Room} {own C host : String} {y : MethodName} {ret : Option FieldType} {D : va_G} {cI cC : ClassId} {W0 W1 wc wn : va_W} {nW : Nat} {r : Int32} {ra : Nat} {H0 : Heap}
theorem cs_I {post : Int32 → Prop} {a : Array Value} (hr : va_Run p l e R s m args below meth c H locs cells slots 0 0 (F0 m pc ls st0) rest (vp_Si post a) (fun _ => False))
    (kk : ∀ r : Int32, post r → W p l e R s m args below meth c H locs cells slots Q (F0 m (pc + 3) ls (.int r :: rest))) : W p l e R s m args below meth c H locs cells slots Q (F0 m pc ls st0) := by
  intro T hT X
  obtain ⟨v, st₀, t, T', L, h0, X', hL, e1, e2, ⟨r, hv, hp, hq⟩, st⟩ := hr T hT X
  cases hv
  have hL0 : L = [] := List.eq_nil_iff_forall_not_mem.mpr (fun q hq => hL q hq)
  subst hL0
  rw [List.append_nil] at X'
  obtain ⟨t2, a1, b1⟩ := kk r hp T' (by rw [e1, hq, h0]) X'
  exact ⟨t2, st t2 a1, b1⟩
theorem cs_A {post : Nat → Prop} {a : Array Value} (hr : va_Run p l e R s m args below meth c H locs cells slots 0 0 (F0 m pc ls st0) rest (va_Sr post (fun k => .ref k) a) (fun _ => False))
    (kk : ∀ r : Nat, post r → W p l e R s m args below meth c H locs cells slots Q (F0 m (pc + 3) ls (.ref r :: rest))) : W p l e R s m args below meth c H locs cells slots Q (F0 m pc ls st0) := by
  intro T hT X
  obtain ⟨v, st₀, t, T', L, h0, X', hL, e1, e2, ⟨r, hv, hp, hq⟩, st⟩ := hr T hT X
  cases hv
  have hL0 : L = [] := List.eq_nil_iff_forall_not_mem.mpr (fun q hq => hL q hq)
  subst hL0
  rw [List.append_nil] at X'
  obtain ⟨t2, a1, b1⟩ := kk r hp T' (by rw [e1, hq, h0]) X'
  exact ⟨t2, st t2 a1, b1⟩
/-- what a caller's frame knows -/
def FX (p : Program) (m : MethodId) (c : Code) (cc : ByteArray) (nL : Nat) (s : State) (args : Array Value) (Ts : List Cond) (own : String) (D : va_G) (cI cC : ClassId) : Prop := CallFix p m c cc nL s args Ts own ∧ va_K D vwCl (tya cI cC) s ∧ NW s
theorem pw_at (hF : FX p m c cc nL s args Ts own D cI cC) (hP : va_P D vwCl W0 H) (hD : va_D A W0) (isC : List Nat) (hC : isC.map (fun i => W0[i]?) = wc.map some) (hnd : va_nd isC = true) {U : State} (hU : U.heap = H) (hW : s.WarmedH U.vm) : pw D cI cC wc U :=
  ⟨by rw [hU]; exact w_of hP isC hC, va_K.moved hW.alike hF.2.1, (hD.sub isC hnd hC).weaken (fun _ _ _ _ => trivial), NW.warm hW hF.2.2⟩

theorem cl_RV (hF : FX p m c cc nL s args Ts own D cI cC) (hP : va_P D vwCl W0 H) (hD : va_D A W0) (hM : RdI l y ws rm D cI cC wc (.ref b :: As) r) (cw : CallW R s args own C index y bytes maxL ret ws rm 0 0 n) (isC : List Nat) (hC : isC.map (fun i => W0[i]?) = wc.map some) (hnd : va_nd isC = true) (recv : ∃ cell : Cell, H[b]? = some cell ∧ cell.vm.isStatics = false ∧ s.vm.findClass C = some cell.cls) (hn : As.length = n) (hst : st0 = As.reverse ++ .ref b :: rest) (hsz : ls.size = nL) (hrm : (rest.map fun v => v.category).sum ≤ 8) (hdg : decode cc pc = .ok (.invokevirtual index, 3)) (hcs : cells ≤ R.cells ∧ slots ≤ R.slots)
    (kk : W p l e R s m args below meth c H locs cells slots Q (F0 m (pc + 3) ls (.int r :: rest))) : W p l e R s m args below meth c H locs cells slots Q (F0 m pc ls st0) := by
  refine cs_I (va_runV (As := As) (rest := rest) (g := F0 m pc ls st0) hF.1 hM cw ⟨pw.fb, recv, fun U hU hW => ⟨rfl, pw_at hF hP hD isC hC hnd hU hW⟩⟩ rfl hn hsz hst (lv_room hrm) hdg hcs) (fun r' hr => ?_)
  subst hr
  exact kk
theorem cl_AV (hF : FX p m c cc nL s args Ts own D cI cC) (hP : va_P D vwCl W0 H) (hD : va_D A W0) (hM : RdA l y ws rm D cI cC wc (.ref b :: As) ra) (cw : CallW R s args own C index y bytes maxL ret ws rm 0 0 n) (isC : List Nat) (hC : isC.map (fun i => W0[i]?) = wc.map some) (hnd : va_nd isC = true) (recv : ∃ cell : Cell, H[b]? = some cell ∧ cell.vm.isStatics = false ∧ s.vm.findClass C = some cell.cls) (hn : As.length = n) (hst : st0 = As.reverse ++ .ref b :: rest) (hsz : ls.size = nL) (hrm : (rest.map fun v => v.category).sum ≤ 8) (hdg : decode cc pc = .ok (.invokevirtual index, 3)) (hcs : cells ≤ R.cells ∧ slots ≤ R.slots)
    (kk : W p l e R s m args below meth c H locs cells slots Q (F0 m (pc + 3) ls (.ref ra :: rest))) : W p l e R s m args below meth c H locs cells slots Q (F0 m pc ls st0) := by
  refine cs_A (va_runV (As := As) (rest := rest) (g := F0 m pc ls st0) hF.1 hM cw ⟨pw.fb, recv, fun U hU hW => ⟨rfl, pw_at hF hP hD isC hC hnd hU hW⟩⟩ rfl hn hsz hst (lv_room hrm) hdg hcs) (fun r' hr => ?_)
  subst hr
  exact kk
theorem cl_WV (hF : FX p m c cc nL s args Ts own D cI cC) (hP : va_P D vwCl W0 H) (hD : va_D A W0) (hS : va_S A H0 H locs) (hM : WrI l y ws rm D cI cC wc wn (.ref b :: As) r) (cw : CallW R s args own C index y bytes maxL ret ws rm 0 0 n) (isC : List Nat) (hC : isC.map (fun i => W0[i]?) = wc.map some) (hnd : va_nd isC = true) (recv : ∃ cell : Cell, H[b]? = some cell ∧ cell.vm.isStatics = false ∧ s.vm.findClass C = some cell.cls) (hn : As.length = n) (hst : st0 = As.reverse ++ .ref b :: rest) (hsz : ls.size = nL) (hrm : (rest.map fun v => v.category).sum ≤ 8) (hdg : decode cc pc = .ok (.invokevirtual index, 3)) (hcs : cells ≤ R.cells ∧ slots ≤ R.slots) (hA : wn.map Prod.fst = wc.map Prod.fst) (isR : List Nat) (hC1 : isC.map (fun i => W1[i]?) = wn.map some) (wr : va_W) (hR0 : isR.map (fun i => W0[i]?) = wr.map some) (hR1 : isR.map (fun i => W1[i]?) = wr.map some) (hnW : W1.length = nW) (hcv : cvr nW isC isR = true)
    (kk : ∀ (H1 : Heap) (locs1 : List Loc), va_P D vwCl W1 H1 → va_D A W1 → va_S A H0 H1 locs1 → W p l e R s m args below meth c H1 locs1 cells slots Q (F0 m (pc + 3) ls (.int r :: rest))) : W p l e R s m args below meth c H locs cells slots Q (F0 m pc ls st0) := by
  refine va_calli (va_runV (As := As) (rest := rest) (g := F0 m pc ls st0) hF.1 hM cw ⟨pw.fb, recv, fun U hU hW => ⟨rfl, pw_at hF hP hD isC hC hnd hU hW⟩⟩ rfl hn hsz hst (lv_room hrm) hdg hcs) hS (fun q _ h => ad_sub hD isC hC q h) (ad_sub hD isC hC) (fun r' u t H1 locs1 ht hvm hr hB hz hk hS => ?_)
  subst hr
  rw [ht] at hB
  obtain ⟨hP2, hD2⟩ := nw_all hP hD isC isR hC hC1 hR0 hR1 hA hnW hcv hB hk
  exact kk H1 locs1 hP2 hD2 hS
theorem cl_VV (hF : FX p m c cc nL s args Ts own D cI cC) (hP : va_P D vwCl W0 H) (hD : va_D A W0) (hS : va_S A H0 H locs) (hM : WrV l y ws rm D cI cC wc wn (.ref b :: As)) (cw : CallW R s args own C index y bytes maxL ret ws rm 0 0 n) (isC : List Nat) (hC : isC.map (fun i => W0[i]?) = wc.map some) (hnd : va_nd isC = true) (recv : ∃ cell : Cell, H[b]? = some cell ∧ cell.vm.isStatics = false ∧ s.vm.findClass C = some cell.cls) (hn : As.length = n) (hst : st0 = As.reverse ++ .ref b :: rest) (hsz : ls.size = nL) (hrm : (rest.map fun v => v.category).sum ≤ 8) (hdg : decode cc pc = .ok (.invokevirtual index, 3)) (hcs : cells ≤ R.cells ∧ slots ≤ R.slots) (hA : wn.map Prod.fst = wc.map Prod.fst) (isR : List Nat) (hC1 : isC.map (fun i => W1[i]?) = wn.map some) (wr : va_W) (hR0 : isR.map (fun i => W0[i]?) = wr.map some) (hR1 : isR.map (fun i => W1[i]?) = wr.map some) (hnW : W1.length = nW) (hcv : cvr nW isC isR = true)
    (kk : ∀ (H1 : Heap) (locs1 : List Loc), va_P D vwCl W1 H1 → va_D A W1 → va_S A H0 H1 locs1 → W p l e R s m args below meth c H1 locs1 cells slots Q (F0 m (pc + 3) ls rest)) : W p l e R s m args below meth c H locs cells slots Q (F0 m pc ls st0) := by
  refine va_callv (va_runV (As := As) (rest := rest) (g := F0 m pc ls st0) hF.1 hM cw ⟨pw.fb, recv, fun U hU hW => ⟨rfl, pw_at hF hP hD isC hC hnd hU hW⟩⟩ rfl hn hsz hst (lv_room hrm) hdg hcs) hS (fun q _ h => ad_sub hD isC hC q h) (ad_sub hD isC hC) (fun u t H1 locs1 ht hvm hr hB hz hk hS => ?_)
  rw [ht] at hB
  obtain ⟨hP2, hD2⟩ := nw_all hP hD isC isR hC hC1 hR0 hR1 hA hnW hcv hB hk
  exact kk H1 locs1 hP2 hD2 hS
theorem cl_WAV (hF : FX p m c cc nL s args Ts own D cI cC) (hP : va_P D vwCl W0 H) (hD : va_D A W0) (hS : va_S A H0 H locs) (hM : WrA l y ws rm D cI cC wc wn (.ref b :: As) ra) (cw : CallW R s args own C index y bytes maxL ret ws rm 0 0 n) (isC : List Nat) (hC : isC.map (fun i => W0[i]?) = wc.map some) (hnd : va_nd isC = true) (recv : ∃ cell : Cell, H[b]? = some cell ∧ cell.vm.isStatics = false ∧ s.vm.findClass C = some cell.cls) (hn : As.length = n) (hst : st0 = As.reverse ++ .ref b :: rest) (hsz : ls.size = nL) (hrm : (rest.map fun v => v.category).sum ≤ 8) (hdg : decode cc pc = .ok (.invokevirtual index, 3)) (hcs : cells ≤ R.cells ∧ slots ≤ R.slots) (hA : wn.map Prod.fst = wc.map Prod.fst) (isR : List Nat) (hC1 : isC.map (fun i => W1[i]?) = wn.map some) (wr : va_W) (hR0 : isR.map (fun i => W0[i]?) = wr.map some) (hR1 : isR.map (fun i => W1[i]?) = wr.map some) (hnW : W1.length = nW) (hcv : cvr nW isC isR = true)
    (kk : ∀ (H1 : Heap) (locs1 : List Loc), va_P D vwCl W1 H1 → va_D A W1 → va_S A H0 H1 locs1 → W p l e R s m args below meth c H1 locs1 cells slots Q (F0 m (pc + 3) ls (.ref ra :: rest))) : W p l e R s m args below meth c H locs cells slots Q (F0 m pc ls st0) := by
  refine va_callr (va_runV (As := As) (rest := rest) (g := F0 m pc ls st0) hF.1 hM cw ⟨pw.fb, recv, fun U hU hW => ⟨rfl, pw_at hF hP hD isC hC hnd hU hW⟩⟩ rfl hn hsz hst (lv_room hrm) hdg hcs) hS (fun q _ h => ad_sub hD isC hC q h) (ad_sub hD isC hC) (fun u r' t H1 locs1 ht hvm hr hB hz hk hS => ?_)
  obtain ⟨hr, hB⟩ := hB
  subst hr
  rw [ht] at hB
  obtain ⟨hP2, hD2⟩ := nw_all hP hD isC isR hC hC1 hR0 hR1 hA hnW hcv hB hk
  exact kk H1 locs1 hP2 hD2 hS
theorem cl_RS (hF : FX p m c cc nL s args Ts own D cI cC) (hP : va_P D vwCl W0 H) (hD : va_D A W0) (hM : RdI l y ws rm D cI cC wc As r) (cw : CallB R s args own index y bytes maxL ret ws rm 0 0 n ∧ (Cond.static y).before args s = true) (isC : List Nat) (hC : isC.map (fun i => W0[i]?) = wc.map some) (hnd : va_nd isC = true) (hn : As.length = n) (hst : st0 = As.reverse ++ rest) (hsz : ls.size = nL) (hrm : (rest.map fun v => v.category).sum ≤ 8) (hdg : decode cc pc = .ok (.invokestatic index, 3)) (hcs : cells ≤ R.cells ∧ slots ≤ R.slots)
    (kk : W p l e R s m args below meth c H locs cells slots Q (F0 m (pc + 3) ls (.int r :: rest))) : W p l e R s m args below meth c H locs cells slots Q (F0 m pc ls st0) := by
  refine cs_I (va_runS (As := As) (rest := rest) (g := F0 m pc ls st0) hF.1 hM cw ⟨pw.fb, fun U hU hW => ⟨rfl, pw_at hF hP hD isC hC hnd hU hW⟩⟩ rfl hn hsz hst (lv_room hrm) hdg hcs) (fun r' hr => ?_)
  subst hr
  exact kk
theorem cl_WS (hF : FX p m c cc nL s args Ts own D cI cC) (hP : va_P D vwCl W0 H) (hD : va_D A W0) (hS : va_S A H0 H locs) (hM : WrI l y ws rm D cI cC wc wn As r) (cw : CallB R s args own index y bytes maxL ret ws rm 0 0 n ∧ (Cond.static y).before args s = true) (isC : List Nat) (hC : isC.map (fun i => W0[i]?) = wc.map some) (hnd : va_nd isC = true) (hn : As.length = n) (hst : st0 = As.reverse ++ rest) (hsz : ls.size = nL) (hrm : (rest.map fun v => v.category).sum ≤ 8) (hdg : decode cc pc = .ok (.invokestatic index, 3)) (hcs : cells ≤ R.cells ∧ slots ≤ R.slots) (hA : wn.map Prod.fst = wc.map Prod.fst) (isR : List Nat) (hC1 : isC.map (fun i => W1[i]?) = wn.map some) (wr : va_W) (hR0 : isR.map (fun i => W0[i]?) = wr.map some) (hR1 : isR.map (fun i => W1[i]?) = wr.map some) (hnW : W1.length = nW) (hcv : cvr nW isC isR = true)
    (kk : ∀ (H1 : Heap) (locs1 : List Loc), va_P D vwCl W1 H1 → va_D A W1 → va_S A H0 H1 locs1 → W p l e R s m args below meth c H1 locs1 cells slots Q (F0 m (pc + 3) ls (.int r :: rest))) : W p l e R s m args below meth c H locs cells slots Q (F0 m pc ls st0) := by
  refine va_calli (va_runS (As := As) (rest := rest) (g := F0 m pc ls st0) hF.1 hM cw ⟨pw.fb, fun U hU hW => ⟨rfl, pw_at hF hP hD isC hC hnd hU hW⟩⟩ rfl hn hsz hst (lv_room hrm) hdg hcs) hS (fun q _ h => ad_sub hD isC hC q h) (ad_sub hD isC hC) (fun r' u t H1 locs1 ht hvm hr hB hz hk hS => ?_)
  subst hr
  rw [ht] at hB
  obtain ⟨hP2, hD2⟩ := nw_all hP hD isC isR hC hC1 hR0 hR1 hA hnW hcv hB hk
  exact kk H1 locs1 hP2 hD2 hS
theorem cl_VS (hF : FX p m c cc nL s args Ts own D cI cC) (hP : va_P D vwCl W0 H) (hD : va_D A W0) (hS : va_S A H0 H locs) (hM : WrV l y ws rm D cI cC wc wn As) (cw : CallB R s args own index y bytes maxL ret ws rm 0 0 n ∧ (Cond.static y).before args s = true) (isC : List Nat) (hC : isC.map (fun i => W0[i]?) = wc.map some) (hnd : va_nd isC = true) (hn : As.length = n) (hst : st0 = As.reverse ++ rest) (hsz : ls.size = nL) (hrm : (rest.map fun v => v.category).sum ≤ 8) (hdg : decode cc pc = .ok (.invokestatic index, 3)) (hcs : cells ≤ R.cells ∧ slots ≤ R.slots) (hA : wn.map Prod.fst = wc.map Prod.fst) (isR : List Nat) (hC1 : isC.map (fun i => W1[i]?) = wn.map some) (wr : va_W) (hR0 : isR.map (fun i => W0[i]?) = wr.map some) (hR1 : isR.map (fun i => W1[i]?) = wr.map some) (hnW : W1.length = nW) (hcv : cvr nW isC isR = true)
    (kk : ∀ (H1 : Heap) (locs1 : List Loc), va_P D vwCl W1 H1 → va_D A W1 → va_S A H0 H1 locs1 → W p l e R s m args below meth c H1 locs1 cells slots Q (F0 m (pc + 3) ls rest)) : W p l e R s m args below meth c H locs cells slots Q (F0 m pc ls st0) := by
  refine va_callv (va_runS (As := As) (rest := rest) (g := F0 m pc ls st0) hF.1 hM cw ⟨pw.fb, fun U hU hW => ⟨rfl, pw_at hF hP hD isC hC hnd hU hW⟩⟩ rfl hn hsz hst (lv_room hrm) hdg hcs) hS (fun q _ h => ad_sub hD isC hC q h) (ad_sub hD isC hC) (fun u t H1 locs1 ht hvm hr hB hz hk hS => ?_)
  rw [ht] at hB
  obtain ⟨hP2, hD2⟩ := nw_all hP hD isC isR hC hC1 hR0 hR1 hA hnW hcv hB hk
  exact kk H1 locs1 hP2 hD2 hS
theorem cl_RN (hF : FX p m c cc nL s args Ts own D cI cC) (hP : va_P D vwCl W0 H) (hD : va_D A W0) (hM : RdI l y ws rm D cI cC wc As r) (cw : va_CN R s args own index y host bytes maxL ret ws rm 0 0 n ∧ (Cond.static y).before args s = true ∧ True) (isC : List Nat) (hC : isC.map (fun i => W0[i]?) = wc.map some) (hnd : va_nd isC = true) (hn : As.length = n) (hst : st0 = As.reverse ++ rest) (hsz : ls.size = nL) (hrm : (rest.map fun v => v.category).sum ≤ 8) (hdg : decode cc pc = .ok (.invokestatic index, 3)) (hcs : cells ≤ R.cells ∧ slots ≤ R.slots)
    (kk : W p l e R s m args below meth c H locs cells slots Q (F0 m (pc + 3) ls (.int r :: rest))) : W p l e R s m args below meth c H locs cells slots Q (F0 m pc ls st0) := by
  refine cs_I (va_runSN (As := As) (rest := rest) (g := F0 m pc ls st0) hF.1 hM cw ⟨pw.fb, fun U hU hW => ⟨rfl, pw_at hF hP hD isC hC hnd hU hW⟩⟩ rfl hn hsz hst (lv_room hrm) hdg hcs) (fun r' hr => ?_)
  subst hr
  exact kk
theorem cl_WN (hF : FX p m c cc nL s args Ts own D cI cC) (hP : va_P D vwCl W0 H) (hD : va_D A W0) (hS : va_S A H0 H locs) (hM : WrI l y ws rm D cI cC wc wn As r) (cw : va_CN R s args own index y host bytes maxL ret ws rm 0 0 n ∧ (Cond.static y).before args s = true ∧ True) (isC : List Nat) (hC : isC.map (fun i => W0[i]?) = wc.map some) (hnd : va_nd isC = true) (hn : As.length = n) (hst : st0 = As.reverse ++ rest) (hsz : ls.size = nL) (hrm : (rest.map fun v => v.category).sum ≤ 8) (hdg : decode cc pc = .ok (.invokestatic index, 3)) (hcs : cells ≤ R.cells ∧ slots ≤ R.slots) (hA : wn.map Prod.fst = wc.map Prod.fst) (isR : List Nat) (hC1 : isC.map (fun i => W1[i]?) = wn.map some) (wr : va_W) (hR0 : isR.map (fun i => W0[i]?) = wr.map some) (hR1 : isR.map (fun i => W1[i]?) = wr.map some) (hnW : W1.length = nW) (hcv : cvr nW isC isR = true)
    (kk : ∀ (H1 : Heap) (locs1 : List Loc), va_P D vwCl W1 H1 → va_D A W1 → va_S A H0 H1 locs1 → W p l e R s m args below meth c H1 locs1 cells slots Q (F0 m (pc + 3) ls (.int r :: rest))) : W p l e R s m args below meth c H locs cells slots Q (F0 m pc ls st0) := by
  refine va_calli (va_runSN (As := As) (rest := rest) (g := F0 m pc ls st0) hF.1 hM cw ⟨pw.fb, fun U hU hW => ⟨rfl, pw_at hF hP hD isC hC hnd hU hW⟩⟩ rfl hn hsz hst (lv_room hrm) hdg hcs) hS (fun q _ h => ad_sub hD isC hC q h) (ad_sub hD isC hC) (fun r' u t H1 locs1 ht hvm hr hB hz hk hS => ?_)
  subst hr
  rw [ht] at hB
  obtain ⟨hP2, hD2⟩ := nw_all hP hD isC isR hC hC1 hR0 hR1 hA hnW hcv hB hk
  exact kk H1 locs1 hP2 hD2 hS
theorem cl_VN (hF : FX p m c cc nL s args Ts own D cI cC) (hP : va_P D vwCl W0 H) (hD : va_D A W0) (hS : va_S A H0 H locs) (hM : WrV l y ws rm D cI cC wc wn As) (cw : va_CN R s args own index y host bytes maxL ret ws rm 0 0 n ∧ (Cond.static y).before args s = true ∧ True) (isC : List Nat) (hC : isC.map (fun i => W0[i]?) = wc.map some) (hnd : va_nd isC = true) (hn : As.length = n) (hst : st0 = As.reverse ++ rest) (hsz : ls.size = nL) (hrm : (rest.map fun v => v.category).sum ≤ 8) (hdg : decode cc pc = .ok (.invokestatic index, 3)) (hcs : cells ≤ R.cells ∧ slots ≤ R.slots) (hA : wn.map Prod.fst = wc.map Prod.fst) (isR : List Nat) (hC1 : isC.map (fun i => W1[i]?) = wn.map some) (wr : va_W) (hR0 : isR.map (fun i => W0[i]?) = wr.map some) (hR1 : isR.map (fun i => W1[i]?) = wr.map some) (hnW : W1.length = nW) (hcv : cvr nW isC isR = true)
    (kk : ∀ (H1 : Heap) (locs1 : List Loc), va_P D vwCl W1 H1 → va_D A W1 → va_S A H0 H1 locs1 → W p l e R s m args below meth c H1 locs1 cells slots Q (F0 m (pc + 3) ls rest)) : W p l e R s m args below meth c H locs cells slots Q (F0 m pc ls st0) := by
  refine va_callv (va_runSN (As := As) (rest := rest) (g := F0 m pc ls st0) hF.1 hM cw ⟨pw.fb, fun U hU hW => ⟨rfl, pw_at hF hP hD isC hC hnd hU hW⟩⟩ rfl hn hsz hst (lv_room hrm) hdg hcs) hS (fun q _ h => ad_sub hD isC hC q h) (ad_sub hD isC hC) (fun u t H1 locs1 ht hvm hr hB hz hk hS => ?_)
  rw [ht] at hB
  obtain ⟨hP2, hD2⟩ := nw_all hP hD isC isR hC hC1 hR0 hR1 hA hnW hcv hB hk
  exact kk H1 locs1 hP2 hD2 hS
end CL
theorem ch_ok {v : Int32} (h : ¬ v < 0 ∧ v.toNatClampNeg < 65536) : narrow .char (.int v) = .int v ∧ fits .char (.int v) = true := by
  obtain ⟨j, hj, rfl⟩ := nI_of h.1
  have h2 := h.2
  rw [nI_clamp hj] at h2
  exact pk_charN h2
theorem zb_ok {v : Int32} (h : v = 0 ∨ v = 1) : narrow .boolean (.int v) = .int v := by
  rcases h with rfl | rfl <;> decide
section XL
variable {p : Program} {l : Launch} {e : Env} {R : Room} {s : State} {m : MethodId} {args : Array Value} {below : List Frame} {meth : Method} {c : Code} {H : Heap} {locs : List Loc} {cells slots : Nat} {Q : State → Prop}
variable {cc : ByteArray} {pc : Nat} {ls : Array Slot} {rest : List Value} {D : va_G} {cl : List vw_C} {A : Nat → Prop} {a : Nat} {tys : List (ClassId × FieldType)} {ws : va_W} {H0 : Heap}
theorem x_iast (hexec : p.tables.exec = Jvm.exec) (hb : c.code = cc) (hK : va_K D cl tys s) (hP : va_P D cl ws H) (hD : va_D A ws) (hS : va_S A H0 H locs) (q0 t0 : Nat) {cA : ClassId} {n : Nat} {f : Nat → Int32} (ha : ws[q0]? = some (a, .inl (cA, n, .inl f))) (ht : tys[t0]? = some (cA, .int)) {i : Int32} {x : Int32} (hin : vp_in i n) (hdg : decode cc pc = .ok (.iastore, 1))
    (kk : ∀ (z : Nat → Int32) (H1 : Heap) (locs1 : List Loc), z = upd f i.toNatClampNeg x → va_P D cl (ws.set q0 (a, .inl (cA, n, .inl z))) H1 → va_D A (ws.set q0 (a, .inl (cA, n, .inl z))) → va_S A H0 H1 locs1 → W p l e R s m args below meth c H1 locs1 cells slots Q (F0 m (pc + 1) ls rest)) : W p l e R s m args below meth c H locs cells slots Q (F0 m pc ls (.int x :: .int i :: .ref a :: rest)) :=
  va_iast hexec hb hK hP hD hS q0 t0 ha ht hin hdg (fun H1 locs1 h1 h2 h3 => kk _ H1 locs1 rfl h1 h2 h3)
theorem x_cast (hexec : p.tables.exec = Jvm.exec) (hb : c.code = cc) (hK : va_K D cl tys s) (hP : va_P D cl ws H) (hD : va_D A ws) (hS : va_S A H0 H locs) (q0 t0 : Nat) {cA : ClassId} {n : Nat} {f : Nat → Int32} (ha : ws[q0]? = some (a, .inl (cA, n, .inl f))) (ht : tys[t0]? = some (cA, .char)) {i : Int32} {x : Int32} (hin : vp_in i n) (hdg : decode cc pc = .ok (.castore, 1))
    (kk : ∀ (z : Nat → Int32) (H1 : Heap) (locs1 : List Loc), z = upd f i.toNatClampNeg (vp_nar .char x) → va_P D cl (ws.set q0 (a, .inl (cA, n, .inl z))) H1 → va_D A (ws.set q0 (a, .inl (cA, n, .inl z))) → va_S A H0 H1 locs1 → W p l e R s m args below meth c H1 locs1 cells slots Q (F0 m (pc + 1) ls rest)) : W p l e R s m args below meth c H locs cells slots Q (F0 m pc ls (.int x :: .int i :: .ref a :: rest)) :=
  va_cast hexec hb hK hP hD hS q0 t0 ha ht hin hdg (fun H1 locs1 h1 h2 h3 => kk _ H1 locs1 rfl h1 h2 h3)
theorem x_copy (hexec : p.tables.exec = Jvm.exec) (hb : c.code = cc) (hml : c.maxLocals = ls.size) {own : String} {index : Nat} (hown : s.vm.findClass own = some m.cls) (hlink : (Cond.methodLink own index arraycopyName).before args s = true) (hnat : (Cond.native arraycopyName).before args s = true) (hstat : (Cond.static arraycopyName).before args s = true) (hini : (Cond.initialized "java/lang/System").before args s = true)
    (hK : va_K D cl tys s) (hP : va_P D cl ws H) (hD : va_D A ws) (hS : va_S A H0 H locs) (q0 q1 t0 t1 : Nat) {a0 : Nat} {c0 c1 : ClassId} {n0 n1 : Nat} {f g : Nat → Int32} {ty : FieldType} (ha0 : ws[q0]? = some (a0, .inl (c0, n0, .inl f))) (ha1 : ws[q1]? = some (a, .inl (c1, n1, .inl g))) (ht0 : tys[t0]? = some (c0, ty)) (ht1 : tys[t1]? = some (c1, ty)) (hprim : refKind ty = false)
    {sp dp n : Int32} (h1 : ¬ sp < 0) (h2 : ¬ dp < 0) (h3 : ¬ n < 0) (h4 : sp.toNatClampNeg + n.toNatClampNeg ≤ n0) (h5 : dp.toNatClampNeg + n.toNatClampNeg ≤ n1) (hfit : ∀ i, i < n.toNatClampNeg → fits ty (.int (f (sp.toNatClampNeg + i))) = true)
    (hframes : 1 ≤ R.frames) (hlocals : (rest.map fun v => v.category).sum + (nativeFrameWords "java/lang/System" "arraycopy" 5 + 11) ≤ R.locals) (hdg : decode cc pc = .ok (.invokestatic index, 3))
    (kk : ∀ (z : Nat → Int32) (H1 : Heap) (locs1 : List Loc), z = va_cpy f g sp.toNatClampNeg dp.toNatClampNeg n.toNatClampNeg → va_P D cl (ws.set q1 (a, .inl (c1, n1, .inl z))) H1 → va_D A (ws.set q1 (a, .inl (c1, n1, .inl z))) → va_S A H0 H1 locs1 → W p l e R s m args below meth c H1 locs1 cells slots Q (F0 m (pc + 3) ls rest)) : W p l e R s m args below meth c H locs cells slots Q (F0 m pc ls (.int n :: .int dp :: .ref a :: .int sp :: .ref a0 :: rest)) :=
  va_copyi hexec hb hml hown hlink hnat hstat hini hK hP hD hS q0 q1 t0 t1 ha0 ha1 ht0 ht1 hprim h1 h2 h3 h4 h5 hfit hframes hlocals hdg (fun H1 locs1 h1 h2 h3 => kk _ H1 locs1 rfl h1 h2 h3)
end XL

