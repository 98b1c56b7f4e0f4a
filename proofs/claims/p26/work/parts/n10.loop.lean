/-! the law's script: one cell of it, whatever it is -/
set_option maxHeartbeats 4000000 in
theorem c_cell {l : Launch} {b L : Nat} {xs : Nat → Int32} (hL : L ≤ 260) (k : Nat) (hk : k < 2 ^ 20) : Met l yL_cell wsL_cell rmL_cell (va_Pc [.ref b, .int (nI k)] (fun U => va_X b L xs U U.heap)) (vp_Si (fun _ => True)) 0 0 (fun _ => False) := by
  refine Met.ofW (cc := cL_cell) (maxL := 2) (ret := some .int) (by decide) rfl ?_
  intro p e s m args below meth c s₁ B hml hv
  obtain ⟨rfl, hX⟩ := hv
  have hts := atoms_spec (ws := wsL_cell) B.pre
  have hown : s.vm.findClass RL = some m.cls := findClass_of_methodNamed B.named
  have hlocks := B.notSynchronized
  have hx := B.exec
  have hb := B.bytes
  have hl := lv_entry ([.ref b, .int (nI k)]) (n := 2) (Nat.le_of_ble_eq_true rfl)
  rw [lg_entry_eq]
  generalize (lg_sl ([.ref b, .int (nI k)]) ++ List.replicate (2 - (lg_sl ([.ref b, .int (nI k)])).length) Slot.unset).toArray = ls at hl ⊢
  have hl : lv_has ls 2 [(0, .ref b), (1, .int (nI k))] := hl
  have hbl : b < s.heap.size := by
    obtain ⟨scr, h1, -⟩ := hX
    exact (Array.getElem?_eq_some_iff.mp h1).1
  have hbA : ¬ (fun _ : Nat => False) b := fun h => h
  have hS : va_S (fun _ : Nat => False) s.heap s.heap [] := va_S.rf
  have k1_ := hts (.constant RL 7 (40503)) (List.mem_of_getElem? (i := 1) rfl)
  refine lv_iload_n hx hb dL_cell_0 rfl (lv_at hl 1 rfl) ?_
  refine lv_aload_n hx hb dL_cell_1 rfl (lv_at hl 0 rfl) ?_
  refine va_slen hx hb hX hbl hbA hS dL_cell_2 ?_
  refine lv_icmp_ge (tgt := 12) hx hb dL_cell_3 (by decide) (fun hc => ?_) (fun hc => ?_)
  · refine lv_ldc hx hb hown k1_ dL_cell_12 ?_
    refine lv_iload_n hx hb dL_cell_14 rfl (lv_at hl 1 rfl) ?_
    refine lv_iconst (v := (3 : Int32)) hx hb dL_cell_15 (by decide) ?_
    refine lv_iadd hx hb dL_cell_16 ?_
    refine lv_imul hx hb dL_cell_17 ?_
    exact W.zret hx hb B.returns rfl (fun t ht _ => ⟨_, rfl, trivial, ht⟩) (fun q h => by cases h) dL_cell_18 hlocks
  · have hk2 : k < L := Nat.not_le.mp (fun h => hc (nI_le h (by omega)))
    refine lv_aload_n hx hb dL_cell_6 rfl (lv_at hl 0 rfl) ?_
    refine lv_iload_n hx hb dL_cell_7 rfl (lv_at hl 1 rfl) ?_
    refine va_sld hx hb hX hbl hbA hS (vp_in_nI hk2 (by omega)) dL_cell_8 ?_
    refine lv_goto (tgt := 18) hx hb dL_cell_9 (by decide) ?_
    exact W.zret hx hb B.returns rfl (fun t ht _ => ⟨_, rfl, trivial, ht⟩) (fun q h => by cases h) dL_cell_18 hlocks
theorem cell_fb {b L : Nat} {xs : Nat → Int32} {as : List Value} : FrameBlind (va_Pc as (fun U => va_X b L xs U U.heap)) := fun a U g mk q => ⟨q.1, va_X.moved (u := U) (U := U.calling g mk a) (Vm.Alike.refl U.vm) q.2⟩
/-- what holds all through the law -/
def LX (p : Program) (m : MethodId) (c : Code) (s : State) (b L : Nat) (xs : Nat → Int32) (D : va_G) (cI cC : ClassId) : Prop := FX p m c cL_law 12 s #[Value.ref b] wsL_law RL D cI cC ∧ va_X b L xs s s.heap ∧ b < s.heap.size ∧ L ≤ 260 ∧ STX (fun q : Nat => s.heap.size ≤ q) s ∧ (Cond.constant RL 94 (-1000001)).before #[Value.ref b] s = true
section
variable {p : Program} {l : Launch} {e : Env} {s : State} {m : MethodId} {below : List Frame} {meth : Method} {c : Code} {D : va_G} {cI cC : ClassId} {b L : Nat} {xs : Nat → Int32}
theorem cl_CELL {H : Heap} {locs : List Loc} {pc : Nat} {ls : Array Slot} {rest : List Value} {Q : State → Prop} {cells slots : Nat} (hLX : LX p m c s b L xs D cI cC) (hS : va_S (fun q : Nat => s.heap.size ≤ q) s.heap H locs) (k : Nat) (hk : k < 2 ^ 20) (hsz : ls.size = 12) (hrm : (rest.map fun v => v.category).sum ≤ 8) (hdg : decode cL_law pc = .ok (.invokestatic 116, 3)) (hcs : cells ≤ room_1.cells ∧ slots ≤ room_1.slots)
    (kk : ∀ r : Int32, W p l e room_1 s m #[Value.ref b] below meth c H locs cells slots Q (F0 m (pc + 3) ls (.int r :: rest))) : W p l e room_1 s m #[Value.ref b] below meth c H locs cells slots Q (F0 m pc ls (.int (nI k) :: .ref b :: rest)) := by
  obtain ⟨hF, hX, hbl, hL, hST, hk94⟩ := hLX
  have hts := hF.1.2.2.2.2
  have hbA : ¬ (fun q : Nat => s.heap.size ≤ q) b := Nat.not_le.mpr hbl
  exact cs_I (va_runS (As := [.ref b, .int (nI k)]) (rest := rest) (g := F0 m pc ls (.int (nI k) :: .ref b :: rest)) hF.1 (c_cell (xs := xs) hL k hk) (va_cwS 2 hts gL_law_L_cell rfl rfl rfl (by decide +kernel) ⟨(Nat.le_of_ble_eq_true rfl), (Nat.le_of_ble_eq_true rfl)⟩) ⟨cell_fb, fun U hU hW => ⟨rfl, va_X.moved hW.alike (va_X.kept hX (by rw [hU]; exact hS.2.1 b hbl hbA))⟩⟩ rfl rfl hsz rfl (lv_room hrm) hdg hcs) (fun r _ => kk r)
/-- the law's last look -/
theorem law_tail {t0 : Nat} {Z w0 w : va_W} {σ : Sp} {H : Heap} {locs : List Loc} {ls : Array Slot} (hLX : LX p m c s b L xs D cI cC) (hr : meth.sig.returnType = ret) (hlocks : meth.locks = false) (hT : OB cI cC t0 w0 σ w) (hP : va_P D vwCl (Z ++ w) H) (hD : va_D (fun q : Nat => s.heap.size ≤ q) (Z ++ w)) (hS : va_S (fun q : Nat => s.heap.size ≤ q) s.heap H locs) (hl : lv_has ls 12 [(9, .int (1 : Int32)), (1, .ref t0)]) : W p l e room_1 s m #[Value.ref b] below meth c H locs 600000 7302250 (lw_Z below #[Value.ref b] s) (F0 m 203 ls []) := by
  obtain ⟨hF, hX, hbl, hL, hST, hk94⟩ := hLX
  obtain ⟨⟨hx, hb, hml, hown, hts⟩, hK, hN⟩ := id hF
  have hown : s.vm.findClass RL = some m.cls := hown
  refine lv_iload hx hb dL_law_203 (lv_at hl 0 rfl) ?_
  refine lv_if_eq (tgt := 257) hx hb dL_law_205 (by decide) (fun h => absurd h (by decide)) (fun _ => ?_)
  refine lv_aload_n hx hb dL_law_208 rfl (lv_at hl 1 rfl) ?_
  refine lv_bipush (v := (12 : Int32)) hx hb dL_law_209 (by decide) ?_
  have q211 : Q_count (12 : Int32) σ = some cIA := by rfl
  refine cl_RO (As := [.int (12 : Int32)]) (rest := []) hF hP hD hT (oq_count hT (12 : Int32) cIA q211) (cwV 1 hts gL_law_X7_count rfl rfl rfl (by decide +kernel) ⟨(Nat.le_of_ble_eq_true rfl), (Nat.le_of_ble_eq_true rfl)⟩) rfl rfl hl.1 (Nat.le_of_ble_eq_true rfl) dL_law_211 ⟨(Nat.le_of_ble_eq_true rfl), (Nat.le_of_ble_eq_true rfl)⟩ ?_
  refine lv_ldc hx hb hown hk94 dL_law_214 ?_
  refine lv_icmp_ne (tgt := 257) hx hb dL_law_216 (by decide) (fun h => absurd rfl h) (fun _ => ?_)
  refine lv_aload_n hx hb dL_law_219 rfl (lv_at hl 1 rfl) ?_
  refine lv_bipush (v := (26 : Int32)) hx hb dL_law_220 (by decide) ?_
  have q222 : Q_count (26 : Int32) σ = some cIA := by rfl
  refine cl_RO (As := [.int (26 : Int32)]) (rest := []) hF hP hD hT (oq_count hT (26 : Int32) cIA q222) (cwV 1 hts gL_law_X7_count rfl rfl rfl (by decide +kernel) ⟨(Nat.le_of_ble_eq_true rfl), (Nat.le_of_ble_eq_true rfl)⟩) rfl rfl hl.1 (Nat.le_of_ble_eq_true rfl) dL_law_222 ⟨(Nat.le_of_ble_eq_true rfl), (Nat.le_of_ble_eq_true rfl)⟩ ?_
  refine lv_ldc hx hb hown hk94 dL_law_225 ?_
  refine lv_icmp_ne (tgt := 257) hx hb dL_law_227 (by decide) (fun h => absurd rfl h) (fun _ => ?_)
  refine lv_aload_n hx hb dL_law_230 rfl (lv_at hl 1 rfl) ?_
  refine lv_iconst (v := (2 : Int32)) hx hb dL_law_231 (by decide) ?_
  refine lv_iconst (v := (0 : Int32)) hx hb dL_law_232 (by decide) ?_
  have q233 : Q_burrOf (2 : Int32) (0 : Int32) σ = some cIA := by rfl
  refine cl_RO (As := [.int (2 : Int32), .int (0 : Int32)]) (rest := []) hF hP hD hT (oq_burrOf hT (2 : Int32) (0 : Int32) cIA q233) (cwV 2 hts gL_law_X7_burrOf rfl rfl rfl (by decide +kernel) ⟨(Nat.le_of_ble_eq_true rfl), (Nat.le_of_ble_eq_true rfl)⟩) rfl rfl hl.1 (Nat.le_of_ble_eq_true rfl) dL_law_233 ⟨(Nat.le_of_ble_eq_true rfl), (Nat.le_of_ble_eq_true rfl)⟩ ?_
  refine lv_ldc hx hb hown hk94 dL_law_236 ?_
  refine lv_icmp_ne (tgt := 257) hx hb dL_law_238 (by decide) (fun h => absurd rfl h) (fun _ => ?_)
  refine lv_aload_n hx hb dL_law_241 rfl (lv_at hl 1 rfl) ?_
  refine lv_iconst (v := (2 : Int32)) hx hb dL_law_242 (by decide) ?_
  refine lv_iconst (v := (0 : Int32)) hx hb dL_law_243 (by decide) ?_
  refine lv_iconst (v := (0 : Int32)) hx hb dL_law_244 (by decide) ?_
  have q245 : Q_portionOf (2 : Int32) (0 : Int32) (0 : Int32) σ = some cIA := by rfl
  refine cl_RO (As := [.int (2 : Int32), .int (0 : Int32), .int (0 : Int32)]) (rest := []) hF hP hD hT (oq_portionOf hT (2 : Int32) (0 : Int32) (0 : Int32) cIA q245) (cwV 3 hts gL_law_X7_portionOf rfl rfl rfl (by decide +kernel) ⟨(Nat.le_of_ble_eq_true rfl), (Nat.le_of_ble_eq_true rfl)⟩) rfl rfl hl.1 (Nat.le_of_ble_eq_true rfl) dL_law_245 ⟨(Nat.le_of_ble_eq_true rfl), (Nat.le_of_ble_eq_true rfl)⟩ ?_
  refine lv_ldc hx hb hown hk94 dL_law_248 ?_
  refine lv_icmp_ne (tgt := 257) hx hb dL_law_250 (by decide) (fun h => absurd rfl h) (fun _ => ?_)
  refine lv_iconst (v := (1 : Int32)) hx hb dL_law_253 (by decide) ?_
  refine lv_goto (tgt := 258) hx hb dL_law_254 (by decide) ?_
  refine va_forget (fun q hq => hS.2.2 q hq) ?_
  exact lw_ret hx hb hr hlocks dL_law_258
set_option maxHeartbeats 8000000 in
set_option maxRecDepth 100000 in
theorem law_loop {t0 bg bu bh bc be bt bx tn : Nat} {w0 : va_W} (hLX : LX p m c s b L xs D cI cC) (hr : meth.sig.returnType = ret) (hlocks : meth.locks = false) (htn : tn ≤ 100) : ∀ (n k : Nat) (σ : Sp) (G U A C E T X : Nat → Int32) (w : va_W) (H : Heap) (locs : List Loc) (ls : Array Slot), k + n = tn → LR σ G U A C E T X → PI σ 53 → v_se σ ≤ 3000 * k → OB cI cC t0 w0 σ w → va_P D vwCl ([(bg, .inl (cI, 15, .inl G)), (bu, .inl (cI, 8, .inl U)), (bh, .inl (cI, 12, .inl A)), (bc, .inl (cI, 64, .inl C)), (be, .inl (cI, 64, .inl E)), (bt, .inl (cI, 36, .inl T)), (bx, .inl (cI, 48, .inl X))] ++ w) H → va_D (fun q : Nat => s.heap.size ≤ q) ([(bg, .inl (cI, 15, .inl G)), (bu, .inl (cI, 8, .inl U)), (bh, .inl (cI, 12, .inl A)), (bc, .inl (cI, 64, .inl C)), (be, .inl (cI, 64, .inl E)), (bt, .inl (cI, 36, .inl T)), (bx, .inl (cI, 48, .inl X))] ++ w) → va_S (fun q : Nat => s.heap.size ≤ q) s.heap H locs → lv_has ls 12 [(11, .int (nI k)), (10, .int (nI tn)), (9, .int (1 : Int32)), (0, .ref b), (1, .ref t0), (2, .ref bg), (3, .ref bu), (4, .ref bh), (5, .ref bc), (6, .ref be), (7, .ref bt), (8, .ref bx)] → W p l e room_1 s m #[Value.ref b] below meth c H locs 600000 7302250 (lw_Z below #[Value.ref b] s) (F0 m 125 ls []) := by
  obtain ⟨hF, hX, hbl, hL, hST, hk94⟩ := id hLX
  obtain ⟨⟨hx, hb, hml, hown, hts⟩, hK, hN⟩ := id hF
  intro n
  induction n with
  | zero =>
    intro k σ G U A C E T X w H locs ls hk hR hPI hv hT hP hD hS hl
    obtain rfl : k = tn := by omega
    refine lv_iload hx hb dL_law_125 (lv_at hl 0 rfl) ?_
    refine lv_iload hx hb dL_law_127 (lv_at hl 1 rfl) ?_
    refine lv_icmp_ge (tgt := 203) hx hb dL_law_129 (by decide) (fun _ => ?_) (fun h => absurd (nI_le (Nat.le_refl _) (by omega)) h)
    exact law_tail hLX hr hlocks hT hP hD hS (lv_sub hl [2, 4] rfl)
  | succ n ih =>
    intro k σ G U A C E T X w H locs ls hk hR hPI hv hT hP hD hS hl
    refine lv_iload hx hb dL_law_125 (lv_at hl 0 rfl) ?_
    refine lv_iload hx hb dL_law_127 (lv_at hl 1 rfl) ?_
    refine lv_icmp_ge (tgt := 203) hx hb dL_law_129 (by decide) (fun h => absurd h (nI_ge (by omega) (by omega))) (fun _ => ?_)
    refine lv_iload hx hb dL_law_132 (lv_at hl 2 rfl) ?_
    refine lv_if_eq (tgt := 203) hx hb dL_law_134 (by decide) (fun h => absurd h (by decide)) (fun _ => ?_)
    refine lv_aload_n hx hb dL_law_137 rfl (lv_at hl 4 rfl) ?_
    refine lv_aload_n hx hb dL_law_138 rfl (lv_at hl 5 rfl) ?_
    refine lv_aload_n hx hb dL_law_139 rfl (lv_at hl 6 rfl) ?_
    refine lv_aload hx hb dL_law_140 (lv_at hl 7 rfl) ?_
    refine lv_aload hx hb dL_law_142 (lv_at hl 8 rfl) ?_
    refine lv_aload hx hb dL_law_144 (lv_at hl 9 rfl) ?_
    refine lv_aload hx hb dL_law_146 (lv_at hl 10 rfl) ?_
    refine lv_aload hx hb dL_law_148 (lv_at hl 11 rfl) ?_
    refine lv_aload_n hx hb dL_law_150 rfl (lv_at hl 3 rfl) ?_
    refine lv_iconst (v := (1 : Int32)) hx hb dL_law_151 (by decide) ?_
    refine lv_iload hx hb dL_law_152 (lv_at hl 0 rfl) ?_
    refine lv_iadd hx hb dL_law_154 ?_
    rw [show (1 : Int32) + nI k = nI (1 + k) from nI_add 1 k]
    refine cl_CELL hLX hS (1 + k) (by omega) hl.1 (Nat.le_of_ble_eq_true rfl) dL_law_155 ⟨(Nat.le_of_ble_eq_true rfl), (Nat.le_of_ble_eq_true rfl)⟩ (fun z => ?_)
    refine lv_sipush (v := (7919 : Int32)) hx hb dL_law_158 (by decide) ?_
    refine lv_iload hx hb dL_law_161 (lv_at hl 0 rfl) ?_
    refine lv_imul hx hb dL_law_163 ?_
    refine lv_ixor hx hb dL_law_164 ?_
    obtain ⟨G', U', A', C', E', T', X', σ', hq, hR', hPI', hv'⟩ := A_acts hR hPI (by omega) (z ^^^ (7919 : Int32) * nI k)
    refine cl_WSO (X0 := [(bg, .inl (cI, 15, .inl G)), (bu, .inl (cI, 8, .inl U)), (bh, .inl (cI, 12, .inl A)), (bc, .inl (cI, 64, .inl C)), (be, .inl (cI, 64, .inl E)), (bt, .inl (cI, 36, .inl T)), (bx, .inl (cI, 48, .inl X))]) (X1 := [(bg, .inl (cI, 15, .inl G')), (bu, .inl (cI, 8, .inl U')), (bh, .inl (cI, 12, .inl A')), (bc, .inl (cI, 64, .inl C')), (be, .inl (cI, 64, .inl E')), (bt, .inl (cI, 36, .inl T')), (bx, .inl (cI, 48, .inl X'))]) (As := [.ref t0, .ref bg, .ref bu, .ref bh, .ref bc, .ref be, .ref bt, .ref bx, .int (z ^^^ (7919 : Int32) * nI k)]) (rest := []) hF hP hD hS hST hT (c_L_acts bg bu bh bc be bt bx t0 (z ^^^ (7919 : Int32) * nI k) G U A C E T X σ hT _ hq) (va_cwS 9 hts gL_law_L_acts rfl rfl rfl (by decide +kernel) ⟨(Nat.le_of_ble_eq_true rfl), (Nat.le_of_ble_eq_true rfl)⟩) [0, 1, 2, 3, 4, 5, 6] rfl (by decide +kernel) rfl rfl hl.1 (Nat.le_of_ble_eq_true rfl) dL_law_165 ⟨(Nat.le_of_ble_eq_true rfl), (Nat.le_of_ble_eq_true rfl)⟩ (hA2 [bg, bu, bh, bc, be, bt, bx] rfl rfl) [] rfl [] rfl rfl (nX := 7) rfl rfl (by decide +kernel) (fun w H locs hT hP hD hS => ?_)
    refine lv_if_eq (tgt := 194) hx hb dL_law_168 (by decide) (fun h => absurd (show (1 : Int32) = 0 from h) (by decide)) (fun _ => ?_)
    refine lv_aload_n hx hb dL_law_171 rfl (lv_at hl 4 rfl) ?_
    refine lv_aload_n hx hb dL_law_172 rfl (lv_at hl 5 rfl) ?_
    refine lv_aload_n hx hb dL_law_173 rfl (lv_at hl 6 rfl) ?_
    refine lv_aload hx hb dL_law_174 (lv_at hl 7 rfl) ?_
    refine lv_aload hx hb dL_law_176 (lv_at hl 8 rfl) ?_
    refine lv_aload hx hb dL_law_178 (lv_at hl 9 rfl) ?_
    refine lv_aload hx hb dL_law_180 (lv_at hl 10 rfl) ?_
    refine lv_aload hx hb dL_law_182 (lv_at hl 11 rfl) ?_
    refine cl_RSO (X0 := [(bg, .inl (cI, 15, .inl G')), (bu, .inl (cI, 8, .inl U')), (bh, .inl (cI, 12, .inl A')), (bc, .inl (cI, 64, .inl C')), (be, .inl (cI, 64, .inl E')), (bt, .inl (cI, 36, .inl T')), (bx, .inl (cI, 48, .inl X'))]) (As := [.ref t0, .ref bg, .ref bu, .ref bh, .ref bc, .ref be, .ref bt, .ref bx]) (rest := []) hF hP hD (c_L_isSo bg bu bh bc be bt bx t0 G' U' A' C' E' T' X' σ' hT 1 (S_isSo hR' hPI')) (va_cwS 8 hts gL_law_L_isSo rfl rfl rfl (by decide +kernel) ⟨(Nat.le_of_ble_eq_true rfl), (Nat.le_of_ble_eq_true rfl)⟩) [0, 1, 2, 3, 4, 5, 6] rfl (nX := 7) rfl (by decide +kernel) rfl rfl hl.1 (Nat.le_of_ble_eq_true rfl) dL_law_184 ⟨(Nat.le_of_ble_eq_true rfl), (Nat.le_of_ble_eq_true rfl)⟩ ?_
    refine lv_if_eq (tgt := 194) hx hb dL_law_187 (by decide) (fun h => absurd h (by decide)) (fun _ => ?_)
    refine lv_iconst (v := (1 : Int32)) hx hb dL_law_190 (by decide) ?_
    refine lv_goto (tgt := 195) hx hb dL_law_191 (by decide) ?_
    refine lv_istore (lv' := [(9, .int (1 : Int32)), (11, .int (nI k)), (10, .int (nI tn)), (0, .ref b), (1, .ref t0), (2, .ref bg), (3, .ref bu), (4, .ref bh), (5, .ref bc), (6, .ref be), (7, .ref bt), (8, .ref bx)]) hx hb dL_law_195 hl (by decide) rfl (fun ls hl => ?_)
    refine lv_iinc (v := nI (k + 1)) (lv' := [(11, .int (nI (k + 1))), (9, .int (1 : Int32)), (10, .int (nI tn)), (0, .ref b), (1, .ref t0), (2, .ref bg), (3, .ref bu), (4, .ref bh), (5, .ref bc), (6, .ref be), (7, .ref bt), (8, .ref bx)]) hx hb dL_law_197 hl (k := 1) rfl (by show nI k + nI 1 = _; rw [nI_add]) (by decide) rfl (fun ls hl => ?_)
    refine lv_goto (tgt := 125) hx hb dL_law_200 (by decide) ?_
    exact ih (k + 1) σ' G' U' A' C' E' T' X' w H locs ls (by omega) hR' hPI' (by omega) hT hP hD hS (lv_sub hl [0, 2, 1, 3, 4, 5, 6, 7, 8, 9, 10, 11] rfl)
end
