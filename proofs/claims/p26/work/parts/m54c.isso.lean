section
variable {l : Launch} {D : va_G} {cI cC : ClassId}

abbrev rmL_isSo : Room := { frames := 6, cells := 0, slots := 0, locals := 115 }
set_option maxHeartbeats 4000000 in
set_option maxRecDepth 100000 in
theorem c_L_isSo {w0 w : va_W} (bg : Nat) (bu : Nat) (bh : Nat) (bc : Nat) (be : Nat) (bt : Nat) (bx : Nat) (t0 : Nat) (vg : Nat → Int32) (vu : Nat → Int32) (vh : Nat → Int32) (vc : Nat → Int32) (ve : Nat → Int32) (vt : Nat → Int32) (vx : Nat → Int32) (og : Sp) (hT : OB cI cC t0 w0 og w) (R : Int32) (hf : f_L_isSo vg vu vh vc ve vt vx og = some R) : RdI l yL_isSo wsL_isSo rmL_isSo D cI cC ([(bg, .inl (cI, 15, .inl vg)), (bu, .inl (cI, 8, .inl vu)), (bh, .inl (cI, 12, .inl vh)), (bc, .inl (cI, 64, .inl vc)), (be, .inl (cI, 64, .inl ve)), (bt, .inl (cI, 36, .inl vt)), (bx, .inl (cI, 48, .inl vx))] ++ w) [.ref t0, .ref bg, .ref bu, .ref bh, .ref bc, .ref be, .ref bt, .ref bx] R := by
  refine en_R (cc := cL_isSo) (n := 11) (by decide) rfl (Nat.le_of_ble_eq_true rfl) ?_
  intro p e s m args below meth c Q AA ls hx hb hml hown hts hK hN hP hD hl ret
  have hown : s.vm.findClass RL = some m.cls := hown
  have hF : FX p m c cL_isSo 11 s args wsL_isSo RL D cI cC := ⟨⟨hx, hb, hml, hown, hts⟩, hK, hN⟩
  have hl : lv_has ls 11 [(0, .ref t0), (1, .ref bg), (2, .ref bu), (3, .ref bh), (4, .ref bc), (5, .ref be), (6, .ref bt), (7, .ref bx)] := hl
  have k1_ := hts (.constant RL 93 (-1000004)) (List.mem_of_getElem? (i := 1) rfl)
  have J624 : ∀ (z0_624 : Int32), ∀ ls : Array Slot, lv_has ls 11 [(0, .ref t0), (1, .ref bg), (3, .ref bh)] → f_L_isSo_J624 vg vu vh vc ve vt vx og z0_624 = some R → W p l e rmL_isSo s m args below meth c s.heap [] 0 0 Q (F0 m 624 ls [.int z0_624]) := by
    intro z0_624 ls hl hf
    rw [f_L_isSo_J624] at hf
    refine lv_istore (lv' := [(8, .int z0_624), (0, .ref t0), (1, .ref bg), (3, .ref bh)]) hx hb dL_isSo_624 hl (by decide) rfl (fun ls hl => ?_)
    refine lv_iload hx hb dL_isSo_626 (lv_at hl 0 rfl) ?_
    refine lv_if_eq (tgt := 749) hx hb dL_isSo_628 (by decide) (fun hc67 => ?_) (fun hc67 => ?_)
    · replace hf := it hc67 hf
      refine lv_iconst (v := (0 : Int32)) hx hb dL_isSo_749 (by decide) ?_
      obtain rfl := Option.some.inj hf
      exact ret 750 ls _ dL_isSo_750 (by decide) rfl
    · replace hf := ie hc67 hf
      refine lv_aload_n hx hb dL_isSo_631 rfl (lv_at hl 1 rfl) ?_
      refine lv_iconst (v := (0 : Int32)) hx hb dL_isSo_632 (by decide) ?_
      obtain ⟨q68, hq68, hf⟩ := ob hf
      refine cl_RO (As := [.int (0 : Int32)]) (rest := []) hF hP hD hT (oq_count hT (0 : Int32) q68 hq68) (cwV 1 hts gL_isSo_X7_count rfl rfl rfl (by decide +kernel) ⟨(Nat.le_of_ble_eq_true rfl), (Nat.le_of_ble_eq_true rfl)⟩) rfl rfl hl.1 (Nat.le_of_ble_eq_true rfl) dL_isSo_633 ⟨Nat.zero_le _, Nat.zero_le _⟩ ?_
      refine lv_aload_n hx hb dL_isSo_636 rfl (lv_at hl 2 rfl) ?_
      refine lv_iconst (v := (0 : Int32)) hx hb dL_isSo_637 (by decide) ?_
      refine va_iald hx hb hK hP 0 0 rfl rfl (show ¬ ((0 : Int32) < 0 ∨ 15 ≤ (0 : Int32).toNatClampNeg) by decide) dL_isSo_638 ?_
      refine lv_icmp_ne (tgt := 749) hx hb dL_isSo_639 (by decide) (fun hc69 => ?_) (fun hc69 => ?_)
      · replace hf := ie hc69 hf
        refine lv_iconst (v := (0 : Int32)) hx hb dL_isSo_749 (by decide) ?_
        obtain rfl := Option.some.inj hf
        exact ret 750 ls _ dL_isSo_750 (by decide) rfl
      · replace hf := it hc69 hf
        refine lv_aload_n hx hb dL_isSo_642 rfl (lv_at hl 1 rfl) ?_
        refine lv_iconst (v := (1 : Int32)) hx hb dL_isSo_643 (by decide) ?_
        obtain ⟨q70, hq70, hf⟩ := ob hf
        refine cl_RO (As := [.int (1 : Int32)]) (rest := []) hF hP hD hT (oq_count hT (1 : Int32) q70 hq70) (cwV 1 hts gL_isSo_X7_count rfl rfl rfl (by decide +kernel) ⟨(Nat.le_of_ble_eq_true rfl), (Nat.le_of_ble_eq_true rfl)⟩) rfl rfl hl.1 (Nat.le_of_ble_eq_true rfl) dL_isSo_644 ⟨Nat.zero_le _, Nat.zero_le _⟩ ?_
        refine lv_aload_n hx hb dL_isSo_647 rfl (lv_at hl 2 rfl) ?_
        refine lv_iconst (v := (1 : Int32)) hx hb dL_isSo_648 (by decide) ?_
        refine va_iald hx hb hK hP 0 0 rfl rfl (show ¬ ((1 : Int32) < 0 ∨ 15 ≤ (1 : Int32).toNatClampNeg) by decide) dL_isSo_649 ?_
        refine lv_icmp_ne (tgt := 749) hx hb dL_isSo_650 (by decide) (fun hc71 => ?_) (fun hc71 => ?_)
        · replace hf := ie hc71 hf
          refine lv_iconst (v := (0 : Int32)) hx hb dL_isSo_749 (by decide) ?_
          obtain rfl := Option.some.inj hf
          exact ret 750 ls _ dL_isSo_750 (by decide) rfl
        · replace hf := it hc71 hf
          refine lv_aload_n hx hb dL_isSo_653 rfl (lv_at hl 1 rfl) ?_
          refine lv_iconst (v := (2 : Int32)) hx hb dL_isSo_654 (by decide) ?_
          obtain ⟨q72, hq72, hf⟩ := ob hf
          refine cl_RO (As := [.int (2 : Int32)]) (rest := []) hF hP hD hT (oq_count hT (2 : Int32) q72 hq72) (cwV 1 hts gL_isSo_X7_count rfl rfl rfl (by decide +kernel) ⟨(Nat.le_of_ble_eq_true rfl), (Nat.le_of_ble_eq_true rfl)⟩) rfl rfl hl.1 (Nat.le_of_ble_eq_true rfl) dL_isSo_655 ⟨Nat.zero_le _, Nat.zero_le _⟩ ?_
          refine lv_aload_n hx hb dL_isSo_658 rfl (lv_at hl 2 rfl) ?_
          refine lv_iconst (v := (2 : Int32)) hx hb dL_isSo_659 (by decide) ?_
          refine va_iald hx hb hK hP 0 0 rfl rfl (show ¬ ((2 : Int32) < 0 ∨ 15 ≤ (2 : Int32).toNatClampNeg) by decide) dL_isSo_660 ?_
          refine lv_icmp_ne (tgt := 749) hx hb dL_isSo_661 (by decide) (fun hc73 => ?_) (fun hc73 => ?_)
          · replace hf := ie hc73 hf
            refine lv_iconst (v := (0 : Int32)) hx hb dL_isSo_749 (by decide) ?_
            obtain rfl := Option.some.inj hf
            exact ret 750 ls _ dL_isSo_750 (by decide) rfl
          · replace hf := it hc73 hf
            refine lv_aload_n hx hb dL_isSo_664 rfl (lv_at hl 1 rfl) ?_
            refine lv_iconst (v := (3 : Int32)) hx hb dL_isSo_665 (by decide) ?_
            obtain ⟨q74, hq74, hf⟩ := ob hf
            refine cl_RO (As := [.int (3 : Int32)]) (rest := []) hF hP hD hT (oq_count hT (3 : Int32) q74 hq74) (cwV 1 hts gL_isSo_X7_count rfl rfl rfl (by decide +kernel) ⟨(Nat.le_of_ble_eq_true rfl), (Nat.le_of_ble_eq_true rfl)⟩) rfl rfl hl.1 (Nat.le_of_ble_eq_true rfl) dL_isSo_666 ⟨Nat.zero_le _, Nat.zero_le _⟩ ?_
            refine lv_aload_n hx hb dL_isSo_669 rfl (lv_at hl 2 rfl) ?_
            refine lv_iconst (v := (3 : Int32)) hx hb dL_isSo_670 (by decide) ?_
            refine va_iald hx hb hK hP 0 0 rfl rfl (show ¬ ((3 : Int32) < 0 ∨ 15 ≤ (3 : Int32).toNatClampNeg) by decide) dL_isSo_671 ?_
            refine lv_icmp_ne (tgt := 749) hx hb dL_isSo_672 (by decide) (fun hc75 => ?_) (fun hc75 => ?_)
            · replace hf := ie hc75 hf
              refine lv_iconst (v := (0 : Int32)) hx hb dL_isSo_749 (by decide) ?_
              obtain rfl := Option.some.inj hf
              exact ret 750 ls _ dL_isSo_750 (by decide) rfl
            · replace hf := it hc75 hf
              refine lv_aload_n hx hb dL_isSo_675 rfl (lv_at hl 1 rfl) ?_
              refine lv_iconst (v := (4 : Int32)) hx hb dL_isSo_676 (by decide) ?_
              obtain ⟨q76, hq76, hf⟩ := ob hf
              refine cl_RO (As := [.int (4 : Int32)]) (rest := []) hF hP hD hT (oq_count hT (4 : Int32) q76 hq76) (cwV 1 hts gL_isSo_X7_count rfl rfl rfl (by decide +kernel) ⟨(Nat.le_of_ble_eq_true rfl), (Nat.le_of_ble_eq_true rfl)⟩) rfl rfl hl.1 (Nat.le_of_ble_eq_true rfl) dL_isSo_677 ⟨Nat.zero_le _, Nat.zero_le _⟩ ?_
              refine lv_aload_n hx hb dL_isSo_680 rfl (lv_at hl 2 rfl) ?_
              refine lv_iconst (v := (4 : Int32)) hx hb dL_isSo_681 (by decide) ?_
              refine va_iald hx hb hK hP 0 0 rfl rfl (show ¬ ((4 : Int32) < 0 ∨ 15 ≤ (4 : Int32).toNatClampNeg) by decide) dL_isSo_682 ?_
              refine lv_icmp_ne (tgt := 749) hx hb dL_isSo_683 (by decide) (fun hc77 => ?_) (fun hc77 => ?_)
              · replace hf := ie hc77 hf
                refine lv_iconst (v := (0 : Int32)) hx hb dL_isSo_749 (by decide) ?_
                obtain rfl := Option.some.inj hf
                exact ret 750 ls _ dL_isSo_750 (by decide) rfl
              · replace hf := it hc77 hf
                refine lv_aload_n hx hb dL_isSo_686 rfl (lv_at hl 1 rfl) ?_
                refine lv_iconst (v := (5 : Int32)) hx hb dL_isSo_687 (by decide) ?_
                obtain ⟨q78, hq78, hf⟩ := ob hf
                refine cl_RO (As := [.int (5 : Int32)]) (rest := []) hF hP hD hT (oq_count hT (5 : Int32) q78 hq78) (cwV 1 hts gL_isSo_X7_count rfl rfl rfl (by decide +kernel) ⟨(Nat.le_of_ble_eq_true rfl), (Nat.le_of_ble_eq_true rfl)⟩) rfl rfl hl.1 (Nat.le_of_ble_eq_true rfl) dL_isSo_688 ⟨Nat.zero_le _, Nat.zero_le _⟩ ?_
                refine lv_aload_n hx hb dL_isSo_691 rfl (lv_at hl 2 rfl) ?_
                refine lv_aload_n hx hb dL_isSo_692 rfl (lv_at hl 3 rfl) ?_
                obtain ⟨q79, hq79, hf⟩ := ob hf
                refine cl_RSL (X0 := [(bg, .inl (cI, 15, .inl vg)), (bu, .inl (cI, 8, .inl vu)), (bh, .inl (cI, 12, .inl vh)), (bc, .inl (cI, 64, .inl vc)), (be, .inl (cI, 64, .inl ve)), (bt, .inl (cI, 36, .inl vt)), (bx, .inl (cI, 48, .inl vx))]) (As := [.ref bg, .ref bh]) (rest := [.int q78]) hF hP hD (c_L_hopper bg bh vg vh q79 hq79) (va_cwS 2 hts gL_isSo_L_hopper rfl rfl rfl (by decide +kernel) ⟨(Nat.le_of_ble_eq_true rfl), (Nat.le_of_ble_eq_true rfl)⟩) [0, 2] rfl (by decide +kernel) rfl rfl hl.1 (Nat.le_of_ble_eq_true rfl) dL_isSo_693 ⟨Nat.zero_le _, Nat.zero_le _⟩ ?_
                refine lv_icmp_ne (tgt := 749) hx hb dL_isSo_696 (by decide) (fun hc80 => ?_) (fun hc80 => ?_)
                · replace hf := ie hc80 hf
                  refine lv_iconst (v := (0 : Int32)) hx hb dL_isSo_749 (by decide) ?_
                  obtain rfl := Option.some.inj hf
                  exact ret 750 ls _ dL_isSo_750 (by decide) rfl
                · replace hf := it hc80 hf
                  refine lv_aload_n hx hb dL_isSo_699 rfl (lv_at hl 1 rfl) ?_
                  refine lv_bipush (v := (8 : Int32)) hx hb dL_isSo_700 (by decide) ?_
                  obtain ⟨q81, hq81, hf⟩ := ob hf
                  refine cl_RO (As := [.int (8 : Int32)]) (rest := []) hF hP hD hT (oq_count hT (8 : Int32) q81 hq81) (cwV 1 hts gL_isSo_X7_count rfl rfl rfl (by decide +kernel) ⟨(Nat.le_of_ble_eq_true rfl), (Nat.le_of_ble_eq_true rfl)⟩) rfl rfl hl.1 (Nat.le_of_ble_eq_true rfl) dL_isSo_702 ⟨Nat.zero_le _, Nat.zero_le _⟩ ?_
                  refine lv_aload_n hx hb dL_isSo_705 rfl (lv_at hl 2 rfl) ?_
                  refine lv_iconst (v := (5 : Int32)) hx hb dL_isSo_706 (by decide) ?_
                  refine va_iald hx hb hK hP 0 0 rfl rfl (show ¬ ((5 : Int32) < 0 ∨ 15 ≤ (5 : Int32).toNatClampNeg) by decide) dL_isSo_707 ?_
                  refine lv_icmp_ne (tgt := 749) hx hb dL_isSo_708 (by decide) (fun hc82 => ?_) (fun hc82 => ?_)
                  · replace hf := ie hc82 hf
                    refine lv_iconst (v := (0 : Int32)) hx hb dL_isSo_749 (by decide) ?_
                    obtain rfl := Option.some.inj hf
                    exact ret 750 ls _ dL_isSo_750 (by decide) rfl
                  · replace hf := it hc82 hf
                    refine lv_aload_n hx hb dL_isSo_711 rfl (lv_at hl 1 rfl) ?_
                    refine lv_bipush (v := (9 : Int32)) hx hb dL_isSo_712 (by decide) ?_
                    obtain ⟨q83, hq83, hf⟩ := ob hf
                    refine cl_RO (As := [.int (9 : Int32)]) (rest := []) hF hP hD hT (oq_count hT (9 : Int32) q83 hq83) (cwV 1 hts gL_isSo_X7_count rfl rfl rfl (by decide +kernel) ⟨(Nat.le_of_ble_eq_true rfl), (Nat.le_of_ble_eq_true rfl)⟩) rfl rfl hl.1 (Nat.le_of_ble_eq_true rfl) dL_isSo_714 ⟨Nat.zero_le _, Nat.zero_le _⟩ ?_
                    refine lv_aload_n hx hb dL_isSo_717 rfl (lv_at hl 2 rfl) ?_
                    refine lv_bipush (v := (6 : Int32)) hx hb dL_isSo_718 (by decide) ?_
                    refine va_iald hx hb hK hP 0 0 rfl rfl (show ¬ ((6 : Int32) < 0 ∨ 15 ≤ (6 : Int32).toNatClampNeg) by decide) dL_isSo_720 ?_
                    refine lv_icmp_ne (tgt := 749) hx hb dL_isSo_721 (by decide) (fun hc84 => ?_) (fun hc84 => ?_)
                    · replace hf := ie hc84 hf
                      refine lv_iconst (v := (0 : Int32)) hx hb dL_isSo_749 (by decide) ?_
                      obtain rfl := Option.some.inj hf
                      exact ret 750 ls _ dL_isSo_750 (by decide) rfl
                    · replace hf := it hc84 hf
                      refine lv_aload_n hx hb dL_isSo_724 rfl (lv_at hl 1 rfl) ?_
                      refine lv_bipush (v := (11 : Int32)) hx hb dL_isSo_725 (by decide) ?_
                      obtain ⟨q85, hq85, hf⟩ := ob hf
                      refine cl_RO (As := [.int (11 : Int32)]) (rest := []) hF hP hD hT (oq_count hT (11 : Int32) q85 hq85) (cwV 1 hts gL_isSo_X7_count rfl rfl rfl (by decide +kernel) ⟨(Nat.le_of_ble_eq_true rfl), (Nat.le_of_ble_eq_true rfl)⟩) rfl rfl hl.1 (Nat.le_of_ble_eq_true rfl) dL_isSo_727 ⟨Nat.zero_le _, Nat.zero_le _⟩ ?_
                      refine lv_if_ne (tgt := 749) hx hb dL_isSo_730 (by decide) (fun hc86 => ?_) (fun hc86 => ?_)
                      · replace hf := ie hc86 hf
                        refine lv_iconst (v := (0 : Int32)) hx hb dL_isSo_749 (by decide) ?_
                        obtain rfl := Option.some.inj hf
                        exact ret 750 ls _ dL_isSo_750 (by decide) rfl
                      · replace hf := it hc86 hf
                        refine lv_aload_n hx hb dL_isSo_733 rfl (lv_at hl 1 rfl) ?_
                        refine lv_bipush (v := (12 : Int32)) hx hb dL_isSo_734 (by decide) ?_
                        refine lv_iconst (v := (0 : Int32)) hx hb dL_isSo_736 (by decide) ?_
                        obtain ⟨q87, hq87, hf⟩ := ob hf
                        refine cl_RO (As := [.int (12 : Int32), .int (0 : Int32)]) (rest := []) hF hP hD hT (oq_shotOf hT (12 : Int32) (0 : Int32) q87 hq87) (cwV 2 hts gL_isSo_X7_shotOf rfl rfl rfl (by decide +kernel) ⟨(Nat.le_of_ble_eq_true rfl), (Nat.le_of_ble_eq_true rfl)⟩) rfl rfl hl.1 (Nat.le_of_ble_eq_true rfl) dL_isSo_737 ⟨Nat.zero_le _, Nat.zero_le _⟩ ?_
                        refine lv_ldc hx hb hown k1_ dL_isSo_740 ?_
                        refine lv_icmp_ne (tgt := 749) hx hb dL_isSo_742 (by decide) (fun hc88 => ?_) (fun hc88 => ?_)
                        · replace hf := ie hc88 hf
                          refine lv_iconst (v := (0 : Int32)) hx hb dL_isSo_749 (by decide) ?_
                          obtain rfl := Option.some.inj hf
                          exact ret 750 ls _ dL_isSo_750 (by decide) rfl
                        · replace hf := it hc88 hf
                          refine lv_iconst (v := (1 : Int32)) hx hb dL_isSo_745 (by decide) ?_
                          refine lv_goto (tgt := 750) hx hb dL_isSo_746 (by decide) ?_
                          obtain rfl := Option.some.inj hf
                          exact ret 750 ls _ dL_isSo_750 (by decide) rfl
  have J623 : ∀ ls : Array Slot, lv_has ls 11 [(0, .ref t0), (1, .ref bg), (3, .ref bh)] → f_L_isSo_J623 vg vu vh vc ve vt vx og = some R → W p l e rmL_isSo s m args below meth c s.heap [] 0 0 Q (F0 m 623 ls []) := by
    intro  ls hl hf
    rw [f_L_isSo_J623] at hf
    refine lv_iconst (v := (0 : Int32)) hx hb dL_isSo_623 (by decide) ?_
    exact J624 (0 : Int32) ls (lv_sub hl [0, 1, 2] rfl) hf
  have J541 : ∀ (y8_541 : Int32), ∀ ls : Array Slot, lv_has ls 11 [(0, .ref t0), (1, .ref bg), (3, .ref bh), (8, .int y8_541)] → f_L_isSo_J541 vg vu vh vc ve vt vx og y8_541 = some R → W p l e rmL_isSo s m args below meth c s.heap [] 0 0 Q (F0 m 541 ls []) := by
    intro y8_541 ls hl hf
    rw [f_L_isSo_J541] at hf
    refine lv_iload hx hb dL_isSo_541 (lv_at hl 3 rfl) ?_
    refine lv_if_eq (tgt := 623) hx hb dL_isSo_543 (by decide) (fun hc47 => ?_) (fun hc47 => ?_)
    · replace hf := it hc47 hf
      exact J623  ls (lv_sub hl [0, 1, 2] rfl) hf
    · replace hf := ie hc47 hf
      refine lv_aload_n hx hb dL_isSo_546 rfl (lv_at hl 0 rfl) ?_
      refine lv_iconst (v := (2 : Int32)) hx hb dL_isSo_547 (by decide) ?_
      obtain ⟨q48, hq48, hf⟩ := ob hf
      refine cl_RO (As := [.int (2 : Int32)]) (rest := []) hF hP hD hT (oq_count hT (2 : Int32) q48 hq48) (cwV 1 hts gL_isSo_X7_count rfl rfl rfl (by decide +kernel) ⟨(Nat.le_of_ble_eq_true rfl), (Nat.le_of_ble_eq_true rfl)⟩) rfl rfl hl.1 (Nat.le_of_ble_eq_true rfl) dL_isSo_548 ⟨Nat.zero_le _, Nat.zero_le _⟩ ?_
      refine lv_aload_n hx hb dL_isSo_551 rfl (lv_at hl 0 rfl) ?_
      refine lv_iconst (v := (3 : Int32)) hx hb dL_isSo_552 (by decide) ?_
      obtain ⟨q49, hq49, hf⟩ := ob hf
      refine cl_RO (As := [.int (3 : Int32)]) (rest := [.int q48]) hF hP hD hT (oq_count hT (3 : Int32) q49 hq49) (cwV 1 hts gL_isSo_X7_count rfl rfl rfl (by decide +kernel) ⟨(Nat.le_of_ble_eq_true rfl), (Nat.le_of_ble_eq_true rfl)⟩) rfl rfl hl.1 (Nat.le_of_ble_eq_true rfl) dL_isSo_553 ⟨Nat.zero_le _, Nat.zero_le _⟩ ?_
      refine lv_aload_n hx hb dL_isSo_556 rfl (lv_at hl 0 rfl) ?_
      refine lv_iconst (v := (4 : Int32)) hx hb dL_isSo_557 (by decide) ?_
      obtain ⟨q50, hq50, hf⟩ := ob hf
      refine cl_RO (As := [.int (4 : Int32)]) (rest := [.int q49, .int q48]) hF hP hD hT (oq_count hT (4 : Int32) q50 hq50) (cwV 1 hts gL_isSo_X7_count rfl rfl rfl (by decide +kernel) ⟨(Nat.le_of_ble_eq_true rfl), (Nat.le_of_ble_eq_true rfl)⟩) rfl rfl hl.1 (Nat.le_of_ble_eq_true rfl) dL_isSo_558 ⟨Nat.zero_le _, Nat.zero_le _⟩ ?_
      refine lv_iadd hx hb dL_isSo_561 ?_
      refine lv_aload_n hx hb dL_isSo_562 rfl (lv_at hl 0 rfl) ?_
      refine lv_bipush (v := (6 : Int32)) hx hb dL_isSo_563 (by decide) ?_
      obtain ⟨q51, hq51, hf⟩ := ob hf
      refine cl_RO (As := [.int (6 : Int32)]) (rest := [.int (q49 + q50), .int q48]) hF hP hD hT (oq_count hT (6 : Int32) q51 hq51) (cwV 1 hts gL_isSo_X7_count rfl rfl rfl (by decide +kernel) ⟨(Nat.le_of_ble_eq_true rfl), (Nat.le_of_ble_eq_true rfl)⟩) rfl rfl hl.1 (Nat.le_of_ble_eq_true rfl) dL_isSo_565 ⟨Nat.zero_le _, Nat.zero_le _⟩ ?_
      refine lv_iadd hx hb dL_isSo_568 ?_
      refine lv_aload_n hx hb dL_isSo_569 rfl (lv_at hl 0 rfl) ?_
      refine lv_bipush (v := (7 : Int32)) hx hb dL_isSo_570 (by decide) ?_
      obtain ⟨q52, hq52, hf⟩ := ob hf
      refine cl_RO (As := [.int (7 : Int32)]) (rest := [.int ((q49 + q50) + q51), .int q48]) hF hP hD hT (oq_count hT (7 : Int32) q52 hq52) (cwV 1 hts gL_isSo_X7_count rfl rfl rfl (by decide +kernel) ⟨(Nat.le_of_ble_eq_true rfl), (Nat.le_of_ble_eq_true rfl)⟩) rfl rfl hl.1 (Nat.le_of_ble_eq_true rfl) dL_isSo_572 ⟨Nat.zero_le _, Nat.zero_le _⟩ ?_
      refine lv_iadd hx hb dL_isSo_575 ?_
      refine lv_icmp_ne (tgt := 623) hx hb dL_isSo_576 (by decide) (fun hc53 => ?_) (fun hc53 => ?_)
      · replace hf := ie hc53 hf
        exact J623  ls (lv_sub hl [0, 1, 2] rfl) hf
      · replace hf := it hc53 hf
        refine lv_aload_n hx hb dL_isSo_579 rfl (lv_at hl 0 rfl) ?_
        refine lv_iconst (v := (1 : Int32)) hx hb dL_isSo_580 (by decide) ?_
        obtain ⟨q54, hq54, hf⟩ := ob hf
        refine cl_RO (As := [.int (1 : Int32)]) (rest := []) hF hP hD hT (oq_count hT (1 : Int32) q54 hq54) (cwV 1 hts gL_isSo_X7_count rfl rfl rfl (by decide +kernel) ⟨(Nat.le_of_ble_eq_true rfl), (Nat.le_of_ble_eq_true rfl)⟩) rfl rfl hl.1 (Nat.le_of_ble_eq_true rfl) dL_isSo_581 ⟨Nat.zero_le _, Nat.zero_le _⟩ ?_
        refine lv_aload_n hx hb dL_isSo_584 rfl (lv_at hl 0 rfl) ?_
        refine lv_iconst (v := (2 : Int32)) hx hb dL_isSo_585 (by decide) ?_
        obtain ⟨q55, hq55, hf⟩ := ob hf
        refine cl_RO (As := [.int (2 : Int32)]) (rest := [.int q54]) hF hP hD hT (oq_count hT (2 : Int32) q55 hq55) (cwV 1 hts gL_isSo_X7_count rfl rfl rfl (by decide +kernel) ⟨(Nat.le_of_ble_eq_true rfl), (Nat.le_of_ble_eq_true rfl)⟩) rfl rfl hl.1 (Nat.le_of_ble_eq_true rfl) dL_isSo_586 ⟨Nat.zero_le _, Nat.zero_le _⟩ ?_
        refine lv_aload_n hx hb dL_isSo_589 rfl (lv_at hl 0 rfl) ?_
        refine lv_iconst (v := (5 : Int32)) hx hb dL_isSo_590 (by decide) ?_
        obtain ⟨q56, hq56, hf⟩ := ob hf
        refine cl_RO (As := [.int (5 : Int32)]) (rest := [.int q55, .int q54]) hF hP hD hT (oq_count hT (5 : Int32) q56 hq56) (cwV 1 hts gL_isSo_X7_count rfl rfl rfl (by decide +kernel) ⟨(Nat.le_of_ble_eq_true rfl), (Nat.le_of_ble_eq_true rfl)⟩) rfl rfl hl.1 (Nat.le_of_ble_eq_true rfl) dL_isSo_591 ⟨Nat.zero_le _, Nat.zero_le _⟩ ?_
        refine lv_iadd hx hb dL_isSo_594 ?_
        refine lv_icmp_ne (tgt := 623) hx hb dL_isSo_595 (by decide) (fun hc57 => ?_) (fun hc57 => ?_)
        · replace hf := ie hc57 hf
          exact J623  ls (lv_sub hl [0, 1, 2] rfl) hf
        · replace hf := it hc57 hf
          refine lv_aload_n hx hb dL_isSo_598 rfl (lv_at hl 0 rfl) ?_
          refine lv_iconst (v := (0 : Int32)) hx hb dL_isSo_599 (by decide) ?_
          refine lv_iconst (v := (3 : Int32)) hx hb dL_isSo_600 (by decide) ?_
          obtain ⟨q58, hq58, hf⟩ := ob hf
          refine cl_RO (As := [.int (0 : Int32), .int (3 : Int32)]) (rest := []) hF hP hD hT (oq_burrOf hT (0 : Int32) (3 : Int32) q58 hq58) (cwV 2 hts gL_isSo_X7_burrOf rfl rfl rfl (by decide +kernel) ⟨(Nat.le_of_ble_eq_true rfl), (Nat.le_of_ble_eq_true rfl)⟩) rfl rfl hl.1 (Nat.le_of_ble_eq_true rfl) dL_isSo_601 ⟨Nat.zero_le _, Nat.zero_le _⟩ ?_
          refine lv_aload_n hx hb dL_isSo_604 rfl (lv_at hl 0 rfl) ?_
          refine lv_iconst (v := (1 : Int32)) hx hb dL_isSo_605 (by decide) ?_
          refine lv_iconst (v := (3 : Int32)) hx hb dL_isSo_606 (by decide) ?_
          obtain ⟨q59, hq59, hf⟩ := ob hf
          refine cl_RO (As := [.int (1 : Int32), .int (3 : Int32)]) (rest := [.int q58]) hF hP hD hT (oq_burrOf hT (1 : Int32) (3 : Int32) q59 hq59) (cwV 2 hts gL_isSo_X7_burrOf rfl rfl rfl (by decide +kernel) ⟨(Nat.le_of_ble_eq_true rfl), (Nat.le_of_ble_eq_true rfl)⟩) rfl rfl hl.1 (Nat.le_of_ble_eq_true rfl) dL_isSo_607 ⟨Nat.zero_le _, Nat.zero_le _⟩ ?_
          refine lv_iadd hx hb dL_isSo_610 ?_
          refine lv_aload_n hx hb dL_isSo_611 rfl (lv_at hl 0 rfl) ?_
          refine lv_iconst (v := (2 : Int32)) hx hb dL_isSo_612 (by decide) ?_
          obtain ⟨q60, hq60, hf⟩ := ob hf
          refine cl_RO (As := [.int (2 : Int32)]) (rest := [.int (q58 + q59)]) hF hP hD hT (oq_count hT (2 : Int32) q60 hq60) (cwV 1 hts gL_isSo_X7_count rfl rfl rfl (by decide +kernel) ⟨(Nat.le_of_ble_eq_true rfl), (Nat.le_of_ble_eq_true rfl)⟩) rfl rfl hl.1 (Nat.le_of_ble_eq_true rfl) dL_isSo_613 ⟨Nat.zero_le _, Nat.zero_le _⟩ ?_
          refine lv_icmp_ne (tgt := 623) hx hb dL_isSo_616 (by decide) (fun hc61 => ?_) (fun hc61 => ?_)
          · replace hf := ie hc61 hf
            exact J623  ls (lv_sub hl [0, 1, 2] rfl) hf
          · replace hf := it hc61 hf
            refine lv_iconst (v := (1 : Int32)) hx hb dL_isSo_619 (by decide) ?_
            refine lv_goto (tgt := 624) hx hb dL_isSo_620 (by decide) ?_
            exact J624 (1 : Int32) ls (lv_sub hl [0, 1, 2] rfl) hf
  have L497 : ∀ n497 : Nat, ∀ (y8_497 : Int32) (y9_497 : Int32), ∀ ls : Array Slot, lv_has ls 11 [(0, .ref t0), (1, .ref bg), (3, .ref bh), (8, .int y8_497), (9, .int y9_497)] → f_L_isSo_L497 vg vu vh vc ve vt vx og n497 y8_497 y9_497 = some R → W p l e rmL_isSo s m args below meth c s.heap [] 0 0 Q (F0 m 497 ls []) := by
    intro n497
    induction n497 with
    | zero => intro y8_497 y9_497 ls hl hf; rw [f_L_isSo_L497] at hf; cases hf
    | succ n497 IH497 =>
      intro y8_497 y9_497 ls hl hf
      have J533 : ∀ (y9_533 : Int32) (z0_533 : Int32), ∀ ls : Array Slot, lv_has ls 11 [(0, .ref t0), (1, .ref bg), (3, .ref bh), (9, .int y9_533)] → f_L_isSo_J533 (f_L_isSo_L497 vg vu vh vc ve vt vx og n497) vg vu vh vc ve vt vx og y9_533 z0_533 = some R → W p l e rmL_isSo s m args below meth c s.heap [] 0 0 Q (F0 m 533 ls [.int z0_533]) := by
        intro y9_533 z0_533 ls hl hf
        rw [f_L_isSo_J533] at hf
        refine lv_istore (lv' := [(8, .int z0_533), (0, .ref t0), (1, .ref bg), (3, .ref bh), (9, .int y9_533)]) hx hb dL_isSo_533 hl (by decide) rfl (fun ls hl => ?_)
        obtain ⟨v62, ev62⟩ : ∃ z : Int32, z = y9_533 + (1 : Int32) := ⟨_, rfl⟩
        replace hf := lt_e ev62 hf
        refine lv_iinc (v := v62) (lv' := [(9, .int v62), (8, .int z0_533), (0, .ref t0), (1, .ref bg), (3, .ref bh)]) hx hb dL_isSo_535 hl (k := 4) rfl (by rw [ev62]; rfl) (by decide) rfl (fun ls hl => ?_)
        refine lv_goto (tgt := 497) hx hb dL_isSo_538 (by decide) ?_
        exact IH497 z0_533 v62 ls (lv_sub hl [2, 3, 4, 1, 0] rfl) hf
      rw [f_L_isSo_L497] at hf
      refine lv_iload hx hb dL_isSo_497 (lv_at hl 4 rfl) ?_
      refine lv_bipush (v := (6 : Int32)) hx hb dL_isSo_499 (by decide) ?_
      refine lv_icmp_ge (tgt := 541) hx hb dL_isSo_501 (by decide) (fun hc38 => ?_) (fun hc38 => ?_)
      · replace hf := it hc38 hf
        exact J541 y8_497 ls (lv_sub hl [0, 1, 2, 3] rfl) hf
      · replace hf := ie hc38 hf
        refine lv_iload hx hb dL_isSo_504 (lv_at hl 3 rfl) ?_
        refine lv_if_eq (tgt := 541) hx hb dL_isSo_506 (by decide) (fun hc39 => ?_) (fun hc39 => ?_)
        · replace hf := it hc39 hf
          exact J541 y8_497 ls (lv_sub hl [0, 1, 2, 3] rfl) hf
        · replace hf := ie hc39 hf
          refine lv_aload_n hx hb dL_isSo_509 rfl (lv_at hl 0 rfl) ?_
          refine lv_bipush (v := (20 : Int32)) hx hb dL_isSo_510 (by decide) ?_
          refine lv_iload hx hb dL_isSo_512 (lv_at hl 4 rfl) ?_
          refine lv_iadd hx hb dL_isSo_514 ?_
          obtain ⟨q40, hq40, hf⟩ := ob hf
          refine cl_RO (As := [.int ((20 : Int32) + y9_497)]) (rest := []) hF hP hD hT (oq_count hT ((20 : Int32) + y9_497) q40 hq40) (cwV 1 hts gL_isSo_X7_count rfl rfl rfl (by decide +kernel) ⟨(Nat.le_of_ble_eq_true rfl), (Nat.le_of_ble_eq_true rfl)⟩) rfl rfl hl.1 (Nat.le_of_ble_eq_true rfl) dL_isSo_515 ⟨Nat.zero_le _, Nat.zero_le _⟩ ?_
          refine lv_aload_n hx hb dL_isSo_518 rfl (lv_at hl 1 rfl) ?_
          refine lv_bipush (v := (7 : Int32)) hx hb dL_isSo_519 (by decide) ?_
          refine lv_iload hx hb dL_isSo_521 (lv_at hl 4 rfl) ?_
          refine lv_iadd hx hb dL_isSo_523 ?_
          obtain ⟨hg41, hf⟩ := gd_s hf
          refine va_iald hx hb hK hP 0 0 rfl rfl hg41 dL_isSo_524 ?_
          refine lv_icmp_ne (tgt := 532) hx hb dL_isSo_525 (by decide) (fun hc42 => ?_) (fun hc42 => ?_)
          · replace hf := ie hc42 hf
            refine lv_iconst (v := (0 : Int32)) hx hb dL_isSo_532 (by decide) ?_
            exact J533 y9_497 (0 : Int32) ls (lv_sub hl [0, 1, 2, 4] rfl) hf
          · replace hf := it hc42 hf
            refine lv_iconst (v := (1 : Int32)) hx hb dL_isSo_528 (by decide) ?_
            refine lv_goto (tgt := 533) hx hb dL_isSo_529 (by decide) ?_
            exact J533 y9_497 (1 : Int32) ls (lv_sub hl [0, 1, 2, 4] rfl) hf
  have J494 : ∀ (y8_494 : Int32), ∀ ls : Array Slot, lv_has ls 11 [(0, .ref t0), (1, .ref bg), (3, .ref bh), (8, .int y8_494)] → f_L_isSo_J494 vg vu vh vc ve vt vx og y8_494 = some R → W p l e rmL_isSo s m args below meth c s.heap [] 0 0 Q (F0 m 494 ls []) := by
    intro y8_494 ls hl hf
    rw [f_L_isSo_J494] at hf
    refine lv_iconst (v := (0 : Int32)) hx hb dL_isSo_494 (by decide) ?_
    refine lv_istore (lv' := [(9, .int (0 : Int32)), (0, .ref t0), (1, .ref bg), (3, .ref bh), (8, .int y8_494)]) hx hb dL_isSo_495 hl (by decide) rfl (fun ls hl => ?_)
    exact L497 FU y8_494 (0 : Int32) ls (lv_sub hl [1, 2, 3, 4, 0] rfl) hf
  have L219 : ∀ n219 : Nat, ∀ (y8_219 : Int32) (y9_219 : Int32), ∀ ls : Array Slot, lv_has ls 11 [(0, .ref t0), (1, .ref bg), (3, .ref bh), (6, .ref bt), (7, .ref bx), (8, .int y8_219), (9, .int y9_219)] → f_L_isSo_L219 vg vu vh vc ve vt vx og n219 y8_219 y9_219 = some R → W p l e rmL_isSo s m args below meth c s.heap [] 0 0 Q (F0 m 219 ls []) := by
    intro n219
    induction n219 with
    | zero => intro y8_219 y9_219 ls hl hf; rw [f_L_isSo_L219] at hf; cases hf
    | succ n219 IH219 =>
      intro y8_219 y9_219 ls hl hf
      have J486 : ∀ (y9_486 : Int32) (z0_486 : Int32), ∀ ls : Array Slot, lv_has ls 11 [(0, .ref t0), (1, .ref bg), (3, .ref bh), (6, .ref bt), (7, .ref bx), (9, .int y9_486)] → f_L_isSo_J486 (f_L_isSo_L219 vg vu vh vc ve vt vx og n219) vg vu vh vc ve vt vx og y9_486 z0_486 = some R → W p l e rmL_isSo s m args below meth c s.heap [] 0 0 Q (F0 m 486 ls [.int z0_486]) := by
        intro y9_486 z0_486 ls hl hf
        rw [f_L_isSo_J486] at hf
        refine lv_istore (lv' := [(8, .int z0_486), (0, .ref t0), (1, .ref bg), (3, .ref bh), (6, .ref bt), (7, .ref bx), (9, .int y9_486)]) hx hb dL_isSo_486 hl (by decide) rfl (fun ls hl => ?_)
        obtain ⟨v89, ev89⟩ : ∃ z : Int32, z = y9_486 + (1 : Int32) := ⟨_, rfl⟩
        replace hf := lt_e ev89 hf
        refine lv_iinc (v := v89) (lv' := [(9, .int v89), (8, .int z0_486), (0, .ref t0), (1, .ref bg), (3, .ref bh), (6, .ref bt), (7, .ref bx)]) hx hb dL_isSo_488 hl (k := 6) rfl (by rw [ev89]; rfl) (by decide) rfl (fun ls hl => ?_)
        refine lv_goto (tgt := 219) hx hb dL_isSo_491 (by decide) ?_
        exact IH219 z0_486 v89 ls (lv_sub hl [2, 3, 4, 5, 6, 1, 0] rfl) hf
      have J485 : ∀ (y9_485 : Int32), ∀ ls : Array Slot, lv_has ls 11 [(0, .ref t0), (1, .ref bg), (3, .ref bh), (6, .ref bt), (7, .ref bx), (9, .int y9_485)] → f_L_isSo_J485 (f_L_isSo_L219 vg vu vh vc ve vt vx og n219) vg vu vh vc ve vt vx og y9_485 = some R → W p l e rmL_isSo s m args below meth c s.heap [] 0 0 Q (F0 m 485 ls []) := by
        intro y9_485 ls hl hf
        rw [f_L_isSo_J485] at hf
        refine lv_iconst (v := (0 : Int32)) hx hb dL_isSo_485 (by decide) ?_
        exact J486 y9_485 (0 : Int32) ls (lv_sub hl [0, 1, 2, 3, 4, 5] rfl) hf
      have J478 : ∀ (y9_478 : Int32) (z0_478 : Int32) (z1_478 : Int32), ∀ ls : Array Slot, lv_has ls 11 [(0, .ref t0), (1, .ref bg), (3, .ref bh), (6, .ref bt), (7, .ref bx), (9, .int y9_478)] → f_L_isSo_J478 (f_L_isSo_L219 vg vu vh vc ve vt vx og n219) vg vu vh vc ve vt vx og y9_478 z0_478 z1_478 = some R → W p l e rmL_isSo s m args below meth c s.heap [] 0 0 Q (F0 m 478 ls [.int z0_478, .int z1_478]) := by
        intro y9_478 z0_478 z1_478 ls hl hf
        rw [f_L_isSo_J478] at hf
        refine lv_icmp_ne (tgt := 485) hx hb dL_isSo_478 (by decide) (fun hc111 => ?_) (fun hc111 => ?_)
        · replace hf := ie hc111 hf
          exact J485 y9_478 ls (lv_sub hl [0, 1, 2, 3, 4, 5] rfl) hf
        · replace hf := it hc111 hf
          refine lv_iconst (v := (1 : Int32)) hx hb dL_isSo_481 (by decide) ?_
          refine lv_goto (tgt := 486) hx hb dL_isSo_482 (by decide) ?_
          exact J486 y9_478 (1 : Int32) ls (lv_sub hl [0, 1, 2, 3, 4, 5] rfl) hf
      have J448 : ∀ (y9_448 : Int32) (y10_448 : Int32) (z0_448 : Int32) (z1_448 : Int32), ∀ ls : Array Slot, lv_has ls 11 [(0, .ref t0), (1, .ref bg), (3, .ref bh), (6, .ref bt), (7, .ref bx), (9, .int y9_448), (10, .int y10_448)] → f_L_isSo_J448 (f_L_isSo_L219 vg vu vh vc ve vt vx og n219) vg vu vh vc ve vt vx og y9_448 y10_448 z0_448 z1_448 = some R → W p l e rmL_isSo s m args below meth c s.heap [] 0 0 Q (F0 m 448 ls [.int z0_448, .int z1_448]) := by
        intro y9_448 y10_448 z0_448 z1_448 ls hl hf
        rw [f_L_isSo_J448] at hf
        refine lv_icmp_ne (tgt := 485) hx hb dL_isSo_448 (by decide) (fun hc107 => ?_) (fun hc107 => ?_)
        · replace hf := ie hc107 hf
          exact J485 y9_448 ls (lv_sub hl [0, 1, 2, 3, 4, 5] rfl) hf
        · replace hf := it hc107 hf
          refine lv_aload_n hx hb dL_isSo_451 rfl (lv_at hl 0 rfl) ?_
          refine lv_iload hx hb dL_isSo_452 (lv_at hl 5 rfl) ?_
          refine lv_bipush (v := (7 : Int32)) hx hb dL_isSo_454 (by decide) ?_
          obtain ⟨q108, hq108, hf⟩ := ob hf
          refine cl_RO (As := [.int y9_448, .int (7 : Int32)]) (rest := []) hF hP hD hT (oq_shotOf hT y9_448 (7 : Int32) q108 hq108) (cwV 2 hts gL_isSo_X7_shotOf rfl rfl rfl (by decide +kernel) ⟨(Nat.le_of_ble_eq_true rfl), (Nat.le_of_ble_eq_true rfl)⟩) rfl rfl hl.1 (Nat.le_of_ble_eq_true rfl) dL_isSo_456 ⟨Nat.zero_le _, Nat.zero_le _⟩ ?_
          refine lv_iload hx hb dL_isSo_459 (lv_at hl 6 rfl) ?_
          refine lv_if_eq (tgt := 476) hx hb dL_isSo_461 (by decide) (fun hc109 => ?_) (fun hc109 => ?_)
          · replace hf := it hc109 hf
            refine lv_ldc hx hb hown k1_ dL_isSo_476 ?_
            exact J478 y9_448 (-1000004 : Int32) q108 ls (lv_sub hl [0, 1, 2, 3, 4, 5] rfl) hf
          · replace hf := ie hc109 hf
            refine lv_aload hx hb dL_isSo_464 (lv_at hl 4 rfl) ?_
            refine lv_iconst (v := (4 : Int32)) hx hb dL_isSo_466 (by decide) ?_
            refine lv_iload hx hb dL_isSo_467 (lv_at hl 5 rfl) ?_
            refine lv_imul hx hb dL_isSo_469 ?_
            refine lv_iconst (v := (3 : Int32)) hx hb dL_isSo_470 (by decide) ?_
            refine lv_iadd hx hb dL_isSo_471 ?_
            obtain ⟨hg110, hf⟩ := gd_s hf
            refine va_iald hx hb hK hP 6 0 rfl rfl hg110 dL_isSo_472 ?_
            refine lv_goto (tgt := 478) hx hb dL_isSo_473 (by decide) ?_
            exact J478 y9_448 (vx (((4 : Int32) * y9_448) + (3 : Int32)).toNatClampNeg) q108 ls (lv_sub hl [0, 1, 2, 3, 4, 5] rfl) hf
      have J418 : ∀ (y9_418 : Int32) (y10_418 : Int32) (z0_418 : Int32) (z1_418 : Int32), ∀ ls : Array Slot, lv_has ls 11 [(0, .ref t0), (1, .ref bg), (3, .ref bh), (6, .ref bt), (7, .ref bx), (9, .int y9_418), (10, .int y10_418)] → f_L_isSo_J418 (f_L_isSo_L219 vg vu vh vc ve vt vx og n219) vg vu vh vc ve vt vx og y9_418 y10_418 z0_418 z1_418 = some R → W p l e rmL_isSo s m args below meth c s.heap [] 0 0 Q (F0 m 418 ls [.int z0_418, .int z1_418]) := by
        intro y9_418 y10_418 z0_418 z1_418 ls hl hf
        rw [f_L_isSo_J418] at hf
        refine lv_icmp_ne (tgt := 485) hx hb dL_isSo_418 (by decide) (fun hc103 => ?_) (fun hc103 => ?_)
        · replace hf := ie hc103 hf
          exact J485 y9_418 ls (lv_sub hl [0, 1, 2, 3, 4, 5] rfl) hf
        · replace hf := it hc103 hf
          refine lv_aload_n hx hb dL_isSo_421 rfl (lv_at hl 0 rfl) ?_
          refine lv_iload hx hb dL_isSo_422 (lv_at hl 5 rfl) ?_
          refine lv_bipush (v := (6 : Int32)) hx hb dL_isSo_424 (by decide) ?_
          obtain ⟨q104, hq104, hf⟩ := ob hf
          refine cl_RO (As := [.int y9_418, .int (6 : Int32)]) (rest := []) hF hP hD hT (oq_shotOf hT y9_418 (6 : Int32) q104 hq104) (cwV 2 hts gL_isSo_X7_shotOf rfl rfl rfl (by decide +kernel) ⟨(Nat.le_of_ble_eq_true rfl), (Nat.le_of_ble_eq_true rfl)⟩) rfl rfl hl.1 (Nat.le_of_ble_eq_true rfl) dL_isSo_426 ⟨Nat.zero_le _, Nat.zero_le _⟩ ?_
          refine lv_iload hx hb dL_isSo_429 (lv_at hl 6 rfl) ?_
          refine lv_if_eq (tgt := 446) hx hb dL_isSo_431 (by decide) (fun hc105 => ?_) (fun hc105 => ?_)
          · replace hf := it hc105 hf
            refine lv_ldc hx hb hown k1_ dL_isSo_446 ?_
            exact J448 y9_418 y10_418 (-1000004 : Int32) q104 ls (lv_sub hl [0, 1, 2, 3, 4, 5, 6] rfl) hf
          · replace hf := ie hc105 hf
            refine lv_aload hx hb dL_isSo_434 (lv_at hl 4 rfl) ?_
            refine lv_iconst (v := (4 : Int32)) hx hb dL_isSo_436 (by decide) ?_
            refine lv_iload hx hb dL_isSo_437 (lv_at hl 5 rfl) ?_
            refine lv_imul hx hb dL_isSo_439 ?_
            refine lv_iconst (v := (2 : Int32)) hx hb dL_isSo_440 (by decide) ?_
            refine lv_iadd hx hb dL_isSo_441 ?_
            obtain ⟨hg106, hf⟩ := gd_s hf
            refine va_iald hx hb hK hP 6 0 rfl rfl hg106 dL_isSo_442 ?_
            refine lv_goto (tgt := 448) hx hb dL_isSo_443 (by decide) ?_
            exact J448 y9_418 y10_418 (vx (((4 : Int32) * y9_418) + (2 : Int32)).toNatClampNeg) q104 ls (lv_sub hl [0, 1, 2, 3, 4, 5, 6] rfl) hf
      have J385 : ∀ (y9_385 : Int32) (y10_385 : Int32) (z0_385 : Int32) (z1_385 : Int32), ∀ ls : Array Slot, lv_has ls 11 [(0, .ref t0), (1, .ref bg), (3, .ref bh), (6, .ref bt), (7, .ref bx), (9, .int y9_385), (10, .int y10_385)] → f_L_isSo_J385 (f_L_isSo_L219 vg vu vh vc ve vt vx og n219) vg vu vh vc ve vt vx og y9_385 y10_385 z0_385 z1_385 = some R → W p l e rmL_isSo s m args below meth c s.heap [] 0 0 Q (F0 m 385 ls [.int z0_385, .int z1_385]) := by
        intro y9_385 y10_385 z0_385 z1_385 ls hl hf
        rw [f_L_isSo_J385] at hf
        refine lv_icmp_ne (tgt := 485) hx hb dL_isSo_385 (by decide) (fun hc98 => ?_) (fun hc98 => ?_)
        · replace hf := ie hc98 hf
          exact J485 y9_385 ls (lv_sub hl [0, 1, 2, 3, 4, 5] rfl) hf
        · replace hf := it hc98 hf
          refine lv_aload_n hx hb dL_isSo_388 rfl (lv_at hl 0 rfl) ?_
          refine lv_iload hx hb dL_isSo_389 (lv_at hl 5 rfl) ?_
          refine lv_iconst (v := (5 : Int32)) hx hb dL_isSo_391 (by decide) ?_
          obtain ⟨q99, hq99, hf⟩ := ob hf
          refine cl_RO (As := [.int y9_385, .int (5 : Int32)]) (rest := []) hF hP hD hT (oq_shotOf hT y9_385 (5 : Int32) q99 hq99) (cwV 2 hts gL_isSo_X7_shotOf rfl rfl rfl (by decide +kernel) ⟨(Nat.le_of_ble_eq_true rfl), (Nat.le_of_ble_eq_true rfl)⟩) rfl rfl hl.1 (Nat.le_of_ble_eq_true rfl) dL_isSo_392 ⟨Nat.zero_le _, Nat.zero_le _⟩ ?_
          refine lv_iload hx hb dL_isSo_395 (lv_at hl 6 rfl) ?_
          refine lv_if_eq (tgt := 416) hx hb dL_isSo_397 (by decide) (fun hc100 => ?_) (fun hc100 => ?_)
          · replace hf := it hc100 hf
            refine lv_ldc hx hb hown k1_ dL_isSo_416 ?_
            exact J418 y9_385 y10_385 (-1000004 : Int32) q99 ls (lv_sub hl [0, 1, 2, 3, 4, 5, 6] rfl) hf
          · replace hf := ie hc100 hf
            refine lv_aload_n hx hb dL_isSo_400 rfl (lv_at hl 1 rfl) ?_
            refine lv_aload hx hb dL_isSo_401 (lv_at hl 3 rfl) ?_
            refine lv_iconst (v := (3 : Int32)) hx hb dL_isSo_403 (by decide) ?_
            refine lv_iload hx hb dL_isSo_404 (lv_at hl 5 rfl) ?_
            refine lv_imul hx hb dL_isSo_406 ?_
            refine lv_iconst (v := (1 : Int32)) hx hb dL_isSo_407 (by decide) ?_
            refine lv_iadd hx hb dL_isSo_408 ?_
            obtain ⟨hg101, hf⟩ := gd_s hf
            refine va_iald hx hb hK hP 5 0 rfl rfl hg101 dL_isSo_409 ?_
            obtain ⟨q102, hq102, hf⟩ := ob hf
            refine cl_RSL (X0 := [(bg, .inl (cI, 15, .inl vg)), (bu, .inl (cI, 8, .inl vu)), (bh, .inl (cI, 12, .inl vh)), (bc, .inl (cI, 64, .inl vc)), (be, .inl (cI, 64, .inl ve)), (bt, .inl (cI, 36, .inl vt)), (bx, .inl (cI, 48, .inl vx))]) (As := [.ref bg, .int (vt (((3 : Int32) * y9_385) + (1 : Int32)).toNatClampNeg)]) (rest := [.int q99]) hF hP hD (c_L_away bg (vt (((3 : Int32) * y9_385) + (1 : Int32)).toNatClampNeg) vg q102 hq102) (va_cwS 2 hts gL_isSo_L_away rfl rfl rfl (by decide +kernel) ⟨(Nat.le_of_ble_eq_true rfl), (Nat.le_of_ble_eq_true rfl)⟩) [0] rfl (by decide +kernel) rfl rfl hl.1 (Nat.le_of_ble_eq_true rfl) dL_isSo_410 ⟨Nat.zero_le _, Nat.zero_le _⟩ ?_
            refine lv_goto (tgt := 418) hx hb dL_isSo_413 (by decide) ?_
            exact J418 y9_385 y10_385 q102 q99 ls (lv_sub hl [0, 1, 2, 3, 4, 5, 6] rfl) hf
      have J356 : ∀ (y9_356 : Int32) (y10_356 : Int32) (z0_356 : Int32) (z1_356 : Int32), ∀ ls : Array Slot, lv_has ls 11 [(0, .ref t0), (1, .ref bg), (3, .ref bh), (6, .ref bt), (7, .ref bx), (9, .int y9_356), (10, .int y10_356)] → f_L_isSo_J356 (f_L_isSo_L219 vg vu vh vc ve vt vx og n219) vg vu vh vc ve vt vx og y9_356 y10_356 z0_356 z1_356 = some R → W p l e rmL_isSo s m args below meth c s.heap [] 0 0 Q (F0 m 356 ls [.int z0_356, .int z1_356]) := by
        intro y9_356 y10_356 z0_356 z1_356 ls hl hf
        rw [f_L_isSo_J356] at hf
        refine lv_icmp_ne (tgt := 485) hx hb dL_isSo_356 (by decide) (fun hc94 => ?_) (fun hc94 => ?_)
        · replace hf := ie hc94 hf
          exact J485 y9_356 ls (lv_sub hl [0, 1, 2, 3, 4, 5] rfl) hf
        · replace hf := it hc94 hf
          refine lv_aload_n hx hb dL_isSo_359 rfl (lv_at hl 0 rfl) ?_
          refine lv_iload hx hb dL_isSo_360 (lv_at hl 5 rfl) ?_
          refine lv_iconst (v := (4 : Int32)) hx hb dL_isSo_362 (by decide) ?_
          obtain ⟨q95, hq95, hf⟩ := ob hf
          refine cl_RO (As := [.int y9_356, .int (4 : Int32)]) (rest := []) hF hP hD hT (oq_shotOf hT y9_356 (4 : Int32) q95 hq95) (cwV 2 hts gL_isSo_X7_shotOf rfl rfl rfl (by decide +kernel) ⟨(Nat.le_of_ble_eq_true rfl), (Nat.le_of_ble_eq_true rfl)⟩) rfl rfl hl.1 (Nat.le_of_ble_eq_true rfl) dL_isSo_363 ⟨Nat.zero_le _, Nat.zero_le _⟩ ?_
          refine lv_iload hx hb dL_isSo_366 (lv_at hl 6 rfl) ?_
          refine lv_if_eq (tgt := 383) hx hb dL_isSo_368 (by decide) (fun hc96 => ?_) (fun hc96 => ?_)
          · replace hf := it hc96 hf
            refine lv_ldc hx hb hown k1_ dL_isSo_383 ?_
            exact J385 y9_356 y10_356 (-1000004 : Int32) q95 ls (lv_sub hl [0, 1, 2, 3, 4, 5, 6] rfl) hf
          · replace hf := ie hc96 hf
            refine lv_aload hx hb dL_isSo_371 (lv_at hl 4 rfl) ?_
            refine lv_iconst (v := (4 : Int32)) hx hb dL_isSo_373 (by decide) ?_
            refine lv_iload hx hb dL_isSo_374 (lv_at hl 5 rfl) ?_
            refine lv_imul hx hb dL_isSo_376 ?_
            refine lv_iconst (v := (1 : Int32)) hx hb dL_isSo_377 (by decide) ?_
            refine lv_iadd hx hb dL_isSo_378 ?_
            obtain ⟨hg97, hf⟩ := gd_s hf
            refine va_iald hx hb hK hP 6 0 rfl rfl hg97 dL_isSo_379 ?_
            refine lv_goto (tgt := 385) hx hb dL_isSo_380 (by decide) ?_
            exact J385 y9_356 y10_356 (vx (((4 : Int32) * y9_356) + (1 : Int32)).toNatClampNeg) q95 ls (lv_sub hl [0, 1, 2, 3, 4, 5, 6] rfl) hf
      have J329 : ∀ (y9_329 : Int32) (y10_329 : Int32) (z0_329 : Int32) (z1_329 : Int32), ∀ ls : Array Slot, lv_has ls 11 [(0, .ref t0), (1, .ref bg), (3, .ref bh), (6, .ref bt), (7, .ref bx), (9, .int y9_329), (10, .int y10_329)] → f_L_isSo_J329 (f_L_isSo_L219 vg vu vh vc ve vt vx og n219) vg vu vh vc ve vt vx og y9_329 y10_329 z0_329 z1_329 = some R → W p l e rmL_isSo s m args below meth c s.heap [] 0 0 Q (F0 m 329 ls [.int z0_329, .int z1_329]) := by
        intro y9_329 y10_329 z0_329 z1_329 ls hl hf
        rw [f_L_isSo_J329] at hf
        refine lv_icmp_ne (tgt := 485) hx hb dL_isSo_329 (by decide) (fun hc90 => ?_) (fun hc90 => ?_)
        · replace hf := ie hc90 hf
          exact J485 y9_329 ls (lv_sub hl [0, 1, 2, 3, 4, 5] rfl) hf
        · replace hf := it hc90 hf
          refine lv_aload_n hx hb dL_isSo_332 rfl (lv_at hl 0 rfl) ?_
          refine lv_iload hx hb dL_isSo_333 (lv_at hl 5 rfl) ?_
          refine lv_iconst (v := (3 : Int32)) hx hb dL_isSo_335 (by decide) ?_
          obtain ⟨q91, hq91, hf⟩ := ob hf
          refine cl_RO (As := [.int y9_329, .int (3 : Int32)]) (rest := []) hF hP hD hT (oq_shotOf hT y9_329 (3 : Int32) q91 hq91) (cwV 2 hts gL_isSo_X7_shotOf rfl rfl rfl (by decide +kernel) ⟨(Nat.le_of_ble_eq_true rfl), (Nat.le_of_ble_eq_true rfl)⟩) rfl rfl hl.1 (Nat.le_of_ble_eq_true rfl) dL_isSo_336 ⟨Nat.zero_le _, Nat.zero_le _⟩ ?_
          refine lv_iload hx hb dL_isSo_339 (lv_at hl 6 rfl) ?_
          refine lv_if_eq (tgt := 354) hx hb dL_isSo_341 (by decide) (fun hc92 => ?_) (fun hc92 => ?_)
          · replace hf := it hc92 hf
            refine lv_ldc hx hb hown k1_ dL_isSo_354 ?_
            exact J356 y9_329 y10_329 (-1000004 : Int32) q91 ls (lv_sub hl [0, 1, 2, 3, 4, 5, 6] rfl) hf
          · replace hf := ie hc92 hf
            refine lv_aload hx hb dL_isSo_344 (lv_at hl 4 rfl) ?_
            refine lv_iconst (v := (4 : Int32)) hx hb dL_isSo_346 (by decide) ?_
            refine lv_iload hx hb dL_isSo_347 (lv_at hl 5 rfl) ?_
            refine lv_imul hx hb dL_isSo_349 ?_
            obtain ⟨hg93, hf⟩ := gd_s hf
            refine va_iald hx hb hK hP 6 0 rfl rfl hg93 dL_isSo_350 ?_
            refine lv_goto (tgt := 356) hx hb dL_isSo_351 (by decide) ?_
            exact J356 y9_329 y10_329 (vx ((4 : Int32) * y9_329).toNatClampNeg) q91 ls (lv_sub hl [0, 1, 2, 3, 4, 5, 6] rfl) hf
      have J300 : ∀ (y9_300 : Int32) (y10_300 : Int32) (z0_300 : Int32) (z1_300 : Int32), ∀ ls : Array Slot, lv_has ls 11 [(0, .ref t0), (1, .ref bg), (3, .ref bh), (6, .ref bt), (7, .ref bx), (9, .int y9_300), (10, .int y10_300)] → f_L_isSo_J300 (f_L_isSo_L219 vg vu vh vc ve vt vx og n219) vg vu vh vc ve vt vx og y9_300 y10_300 z0_300 z1_300 = some R → W p l e rmL_isSo s m args below meth c s.heap [] 0 0 Q (F0 m 300 ls [.int z0_300, .int z1_300]) := by
        intro y9_300 y10_300 z0_300 z1_300 ls hl hf
        rw [f_L_isSo_J300] at hf
        refine lv_icmp_ne (tgt := 485) hx hb dL_isSo_300 (by decide) (fun hc63 => ?_) (fun hc63 => ?_)
        · replace hf := ie hc63 hf
          exact J485 y9_300 ls (lv_sub hl [0, 1, 2, 3, 4, 5] rfl) hf
        · replace hf := it hc63 hf
          refine lv_aload_n hx hb dL_isSo_303 rfl (lv_at hl 0 rfl) ?_
          refine lv_iload hx hb dL_isSo_304 (lv_at hl 5 rfl) ?_
          refine lv_iconst (v := (2 : Int32)) hx hb dL_isSo_306 (by decide) ?_
          obtain ⟨q64, hq64, hf⟩ := ob hf
          refine cl_RO (As := [.int y9_300, .int (2 : Int32)]) (rest := []) hF hP hD hT (oq_shotOf hT y9_300 (2 : Int32) q64 hq64) (cwV 2 hts gL_isSo_X7_shotOf rfl rfl rfl (by decide +kernel) ⟨(Nat.le_of_ble_eq_true rfl), (Nat.le_of_ble_eq_true rfl)⟩) rfl rfl hl.1 (Nat.le_of_ble_eq_true rfl) dL_isSo_307 ⟨Nat.zero_le _, Nat.zero_le _⟩ ?_
          refine lv_iload hx hb dL_isSo_310 (lv_at hl 6 rfl) ?_
          refine lv_if_eq (tgt := 327) hx hb dL_isSo_312 (by decide) (fun hc65 => ?_) (fun hc65 => ?_)
          · replace hf := it hc65 hf
            refine lv_ldc hx hb hown k1_ dL_isSo_327 ?_
            exact J329 y9_300 y10_300 (-1000004 : Int32) q64 ls (lv_sub hl [0, 1, 2, 3, 4, 5, 6] rfl) hf
          · replace hf := ie hc65 hf
            refine lv_aload hx hb dL_isSo_315 (lv_at hl 3 rfl) ?_
            refine lv_iconst (v := (3 : Int32)) hx hb dL_isSo_317 (by decide) ?_
            refine lv_iload hx hb dL_isSo_318 (lv_at hl 5 rfl) ?_
            refine lv_imul hx hb dL_isSo_320 ?_
            refine lv_iconst (v := (2 : Int32)) hx hb dL_isSo_321 (by decide) ?_
            refine lv_iadd hx hb dL_isSo_322 ?_
            obtain ⟨hg66, hf⟩ := gd_s hf
            refine va_iald hx hb hK hP 5 0 rfl rfl hg66 dL_isSo_323 ?_
            refine lv_goto (tgt := 329) hx hb dL_isSo_324 (by decide) ?_
            exact J329 y9_300 y10_300 (vt (((3 : Int32) * y9_300) + (2 : Int32)).toNatClampNeg) q64 ls (lv_sub hl [0, 1, 2, 3, 4, 5, 6] rfl) hf
      have J271 : ∀ (y9_271 : Int32) (y10_271 : Int32) (z0_271 : Int32) (z1_271 : Int32), ∀ ls : Array Slot, lv_has ls 11 [(0, .ref t0), (1, .ref bg), (3, .ref bh), (6, .ref bt), (7, .ref bx), (9, .int y9_271), (10, .int y10_271)] → f_L_isSo_J271 (f_L_isSo_L219 vg vu vh vc ve vt vx og n219) vg vu vh vc ve vt vx og y9_271 y10_271 z0_271 z1_271 = some R → W p l e rmL_isSo s m args below meth c s.heap [] 0 0 Q (F0 m 271 ls [.int z0_271, .int z1_271]) := by
        intro y9_271 y10_271 z0_271 z1_271 ls hl hf
        rw [f_L_isSo_J271] at hf
        refine lv_icmp_ne (tgt := 485) hx hb dL_isSo_271 (by decide) (fun hc43 => ?_) (fun hc43 => ?_)
        · replace hf := ie hc43 hf
          exact J485 y9_271 ls (lv_sub hl [0, 1, 2, 3, 4, 5] rfl) hf
        · replace hf := it hc43 hf
          refine lv_aload_n hx hb dL_isSo_274 rfl (lv_at hl 0 rfl) ?_
          refine lv_iload hx hb dL_isSo_275 (lv_at hl 5 rfl) ?_
          refine lv_iconst (v := (1 : Int32)) hx hb dL_isSo_277 (by decide) ?_
          obtain ⟨q44, hq44, hf⟩ := ob hf
          refine cl_RO (As := [.int y9_271, .int (1 : Int32)]) (rest := []) hF hP hD hT (oq_shotOf hT y9_271 (1 : Int32) q44 hq44) (cwV 2 hts gL_isSo_X7_shotOf rfl rfl rfl (by decide +kernel) ⟨(Nat.le_of_ble_eq_true rfl), (Nat.le_of_ble_eq_true rfl)⟩) rfl rfl hl.1 (Nat.le_of_ble_eq_true rfl) dL_isSo_278 ⟨Nat.zero_le _, Nat.zero_le _⟩ ?_
          refine lv_iload hx hb dL_isSo_281 (lv_at hl 6 rfl) ?_
          refine lv_if_eq (tgt := 298) hx hb dL_isSo_283 (by decide) (fun hc45 => ?_) (fun hc45 => ?_)
          · replace hf := it hc45 hf
            refine lv_ldc hx hb hown k1_ dL_isSo_298 ?_
            exact J300 y9_271 y10_271 (-1000004 : Int32) q44 ls (lv_sub hl [0, 1, 2, 3, 4, 5, 6] rfl) hf
          · replace hf := ie hc45 hf
            refine lv_aload hx hb dL_isSo_286 (lv_at hl 3 rfl) ?_
            refine lv_iconst (v := (3 : Int32)) hx hb dL_isSo_288 (by decide) ?_
            refine lv_iload hx hb dL_isSo_289 (lv_at hl 5 rfl) ?_
            refine lv_imul hx hb dL_isSo_291 ?_
            refine lv_iconst (v := (1 : Int32)) hx hb dL_isSo_292 (by decide) ?_
            refine lv_iadd hx hb dL_isSo_293 ?_
            obtain ⟨hg46, hf⟩ := gd_s hf
            refine va_iald hx hb hK hP 5 0 rfl rfl hg46 dL_isSo_294 ?_
            refine lv_goto (tgt := 300) hx hb dL_isSo_295 (by decide) ?_
            exact J300 y9_271 y10_271 (vt (((3 : Int32) * y9_271) + (1 : Int32)).toNatClampNeg) q44 ls (lv_sub hl [0, 1, 2, 3, 4, 5, 6] rfl) hf
      have J245 : ∀ (y9_245 : Int32) (z0_245 : Int32), ∀ ls : Array Slot, lv_has ls 11 [(0, .ref t0), (1, .ref bg), (3, .ref bh), (6, .ref bt), (7, .ref bx), (9, .int y9_245)] → f_L_isSo_J245 (f_L_isSo_L219 vg vu vh vc ve vt vx og n219) vg vu vh vc ve vt vx og y9_245 z0_245 = some R → W p l e rmL_isSo s m args below meth c s.heap [] 0 0 Q (F0 m 245 ls [.int z0_245]) := by
        intro y9_245 z0_245 ls hl hf
        rw [f_L_isSo_J245] at hf
        refine lv_istore (lv' := [(10, .int z0_245), (0, .ref t0), (1, .ref bg), (3, .ref bh), (6, .ref bt), (7, .ref bx), (9, .int y9_245)]) hx hb dL_isSo_245 hl (by decide) rfl (fun ls hl => ?_)
        refine lv_aload_n hx hb dL_isSo_247 rfl (lv_at hl 1 rfl) ?_
        refine lv_iload hx hb dL_isSo_248 (lv_at hl 6 rfl) ?_
        refine lv_iconst (v := (0 : Int32)) hx hb dL_isSo_250 (by decide) ?_
        obtain ⟨q35, hq35, hf⟩ := ob hf
        refine cl_RO (As := [.int y9_245, .int (0 : Int32)]) (rest := []) hF hP hD hT (oq_shotOf hT y9_245 (0 : Int32) q35 hq35) (cwV 2 hts gL_isSo_X7_shotOf rfl rfl rfl (by decide +kernel) ⟨(Nat.le_of_ble_eq_true rfl), (Nat.le_of_ble_eq_true rfl)⟩) rfl rfl hl.1 (Nat.le_of_ble_eq_true rfl) dL_isSo_251 ⟨Nat.zero_le _, Nat.zero_le _⟩ ?_
        refine lv_iload hx hb dL_isSo_254 (lv_at hl 0 rfl) ?_
        refine lv_if_eq (tgt := 269) hx hb dL_isSo_256 (by decide) (fun hc36 => ?_) (fun hc36 => ?_)
        · replace hf := it hc36 hf
          refine lv_ldc hx hb hown k1_ dL_isSo_269 ?_
          exact J271 y9_245 z0_245 (-1000004 : Int32) q35 ls (lv_sub hl [1, 2, 3, 4, 5, 6, 0] rfl) hf
        · replace hf := ie hc36 hf
          refine lv_aload hx hb dL_isSo_259 (lv_at hl 4 rfl) ?_
          refine lv_iconst (v := (3 : Int32)) hx hb dL_isSo_261 (by decide) ?_
          refine lv_iload hx hb dL_isSo_262 (lv_at hl 6 rfl) ?_
          refine lv_imul hx hb dL_isSo_264 ?_
          obtain ⟨hg37, hf⟩ := gd_s hf
          refine va_iald hx hb hK hP 5 0 rfl rfl hg37 dL_isSo_265 ?_
          refine lv_goto (tgt := 271) hx hb dL_isSo_266 (by decide) ?_
          exact J271 y9_245 z0_245 (vt ((3 : Int32) * y9_245).toNatClampNeg) q35 ls (lv_sub hl [1, 2, 3, 4, 5, 6, 0] rfl) hf
      rw [f_L_isSo_L219] at hf
      refine lv_iload hx hb dL_isSo_219 (lv_at hl 6 rfl) ?_
      refine lv_bipush (v := (12 : Int32)) hx hb dL_isSo_221 (by decide) ?_
      refine lv_icmp_ge (tgt := 494) hx hb dL_isSo_223 (by decide) (fun hc31 => ?_) (fun hc31 => ?_)
      · replace hf := it hc31 hf
        exact J494 y8_219 ls (lv_sub hl [0, 1, 2, 5] rfl) hf
      · replace hf := ie hc31 hf
        refine lv_iload hx hb dL_isSo_226 (lv_at hl 5 rfl) ?_
        refine lv_if_eq (tgt := 494) hx hb dL_isSo_228 (by decide) (fun hc32 => ?_) (fun hc32 => ?_)
        · replace hf := it hc32 hf
          exact J494 y8_219 ls (lv_sub hl [0, 1, 2, 5] rfl) hf
        · replace hf := ie hc32 hf
          refine lv_iload hx hb dL_isSo_231 (lv_at hl 6 rfl) ?_
          refine lv_aload_n hx hb dL_isSo_233 rfl (lv_at hl 1 rfl) ?_
          refine lv_bipush (v := (14 : Int32)) hx hb dL_isSo_234 (by decide) ?_
          refine va_iald hx hb hK hP 0 0 rfl rfl (show ¬ ((14 : Int32) < 0 ∨ 15 ≤ (14 : Int32).toNatClampNeg) by decide) dL_isSo_236 ?_
          refine lv_icmp_ge (tgt := 244) hx hb dL_isSo_237 (by decide) (fun hc33 => ?_) (fun hc33 => ?_)
          · replace hf := it hc33 hf
            refine lv_iconst (v := (0 : Int32)) hx hb dL_isSo_244 (by decide) ?_
            exact J245 y9_219 (0 : Int32) ls (lv_sub hl [0, 1, 2, 3, 4, 6] rfl) hf
          · replace hf := ie hc33 hf
            refine lv_iconst (v := (1 : Int32)) hx hb dL_isSo_240 (by decide) ?_
            refine lv_goto (tgt := 245) hx hb dL_isSo_241 (by decide) ?_
            exact J245 y9_219 (1 : Int32) ls (lv_sub hl [0, 1, 2, 3, 4, 6] rfl) hf
  have J216 : ∀ (y8_216 : Int32), ∀ ls : Array Slot, lv_has ls 11 [(0, .ref t0), (1, .ref bg), (3, .ref bh), (6, .ref bt), (7, .ref bx), (8, .int y8_216)] → f_L_isSo_J216 vg vu vh vc ve vt vx og y8_216 = some R → W p l e rmL_isSo s m args below meth c s.heap [] 0 0 Q (F0 m 216 ls []) := by
    intro y8_216 ls hl hf
    rw [f_L_isSo_J216] at hf
    refine lv_iconst (v := (0 : Int32)) hx hb dL_isSo_216 (by decide) ?_
    refine lv_istore (lv' := [(9, .int (0 : Int32)), (0, .ref t0), (1, .ref bg), (3, .ref bh), (6, .ref bt), (7, .ref bx), (8, .int y8_216)]) hx hb dL_isSo_217 hl (by decide) rfl (fun ls hl => ?_)
    exact L219 FU y8_216 (0 : Int32) ls (lv_sub hl [1, 2, 3, 4, 5, 6, 0] rfl) hf
  have L156 : ∀ n156 : Nat, ∀ (y8_156 : Int32) (y9_156 : Int32), ∀ ls : Array Slot, lv_has ls 11 [(0, .ref t0), (1, .ref bg), (3, .ref bh), (6, .ref bt), (7, .ref bx), (8, .int y8_156), (9, .int y9_156)] → f_L_isSo_L156 vg vu vh vc ve vt vx og n156 y8_156 y9_156 = some R → W p l e rmL_isSo s m args below meth c s.heap [] 0 0 Q (F0 m 156 ls []) := by
    intro n156
    induction n156 with
    | zero => intro y8_156 y9_156 ls hl hf; rw [f_L_isSo_L156] at hf; cases hf
    | succ n156 IH156 =>
      intro y8_156 y9_156 ls hl hf
      have J208 : ∀ (y9_208 : Int32) (z0_208 : Int32), ∀ ls : Array Slot, lv_has ls 11 [(0, .ref t0), (1, .ref bg), (3, .ref bh), (6, .ref bt), (7, .ref bx), (9, .int y9_208)] → f_L_isSo_J208 (f_L_isSo_L156 vg vu vh vc ve vt vx og n156) vg vu vh vc ve vt vx og y9_208 z0_208 = some R → W p l e rmL_isSo s m args below meth c s.heap [] 0 0 Q (F0 m 208 ls [.int z0_208]) := by
        intro y9_208 z0_208 ls hl hf
        rw [f_L_isSo_J208] at hf
        refine lv_istore (lv' := [(8, .int z0_208), (0, .ref t0), (1, .ref bg), (3, .ref bh), (6, .ref bt), (7, .ref bx), (9, .int y9_208)]) hx hb dL_isSo_208 hl (by decide) rfl (fun ls hl => ?_)
        obtain ⟨v34, ev34⟩ : ∃ z : Int32, z = y9_208 + (1 : Int32) := ⟨_, rfl⟩
        replace hf := lt_e ev34 hf
        refine lv_iinc (v := v34) (lv' := [(9, .int v34), (8, .int z0_208), (0, .ref t0), (1, .ref bg), (3, .ref bh), (6, .ref bt), (7, .ref bx)]) hx hb dL_isSo_210 hl (k := 6) rfl (by rw [ev34]; rfl) (by decide) rfl (fun ls hl => ?_)
        refine lv_goto (tgt := 156) hx hb dL_isSo_213 (by decide) ?_
        exact IH156 z0_208 v34 ls (lv_sub hl [2, 3, 4, 5, 6, 1, 0] rfl) hf
      have J200 : ∀ (y9_200 : Int32) (z0_200 : Int32) (z1_200 : Int32), ∀ ls : Array Slot, lv_has ls 11 [(0, .ref t0), (1, .ref bg), (3, .ref bh), (6, .ref bt), (7, .ref bx), (9, .int y9_200)] → f_L_isSo_J200 (f_L_isSo_L156 vg vu vh vc ve vt vx og n156) vg vu vh vc ve vt vx og y9_200 z0_200 z1_200 = some R → W p l e rmL_isSo s m args below meth c s.heap [] 0 0 Q (F0 m 200 ls [.int z0_200, .int z1_200]) := by
        intro y9_200 z0_200 z1_200 ls hl hf
        rw [f_L_isSo_J200] at hf
        refine lv_icmp_ne (tgt := 207) hx hb dL_isSo_200 (by decide) (fun hc30 => ?_) (fun hc30 => ?_)
        · replace hf := ie hc30 hf
          refine lv_iconst (v := (0 : Int32)) hx hb dL_isSo_207 (by decide) ?_
          exact J208 y9_200 (0 : Int32) ls (lv_sub hl [0, 1, 2, 3, 4, 5] rfl) hf
        · replace hf := it hc30 hf
          refine lv_iconst (v := (1 : Int32)) hx hb dL_isSo_203 (by decide) ?_
          refine lv_goto (tgt := 208) hx hb dL_isSo_204 (by decide) ?_
          exact J208 y9_200 (1 : Int32) ls (lv_sub hl [0, 1, 2, 3, 4, 5] rfl) hf
      rw [f_L_isSo_L156] at hf
      refine lv_iload hx hb dL_isSo_156 (lv_at hl 6 rfl) ?_
      refine lv_bipush (v := (12 : Int32)) hx hb dL_isSo_158 (by decide) ?_
      refine lv_icmp_ge (tgt := 216) hx hb dL_isSo_160 (by decide) (fun hc25 => ?_) (fun hc25 => ?_)
      · replace hf := it hc25 hf
        exact J216 y8_156 ls (lv_sub hl [0, 1, 2, 3, 4, 5] rfl) hf
      · replace hf := ie hc25 hf
        refine lv_iload hx hb dL_isSo_163 (lv_at hl 5 rfl) ?_
        refine lv_if_eq (tgt := 216) hx hb dL_isSo_165 (by decide) (fun hc26 => ?_) (fun hc26 => ?_)
        · replace hf := it hc26 hf
          exact J216 y8_156 ls (lv_sub hl [0, 1, 2, 3, 4, 5] rfl) hf
        · replace hf := ie hc26 hf
          refine lv_aload_n hx hb dL_isSo_168 rfl (lv_at hl 0 rfl) ?_
          refine lv_iload hx hb dL_isSo_169 (lv_at hl 6 rfl) ?_
          refine lv_iconst (v := (2 : Int32)) hx hb dL_isSo_171 (by decide) ?_
          refine lv_idiv hx hb dL_isSo_172 (by decide) ?_
          refine lv_iload hx hb dL_isSo_173 (lv_at hl 6 rfl) ?_
          refine lv_iconst (v := (2 : Int32)) hx hb dL_isSo_175 (by decide) ?_
          refine lv_irem hx hb dL_isSo_176 (by decide) ?_
          obtain ⟨q27, hq27, hf⟩ := ob hf
          refine cl_RO (As := [.int (y9_156 / (2 : Int32)), .int (y9_156 - y9_156 / (2 : Int32) * (2 : Int32))]) (rest := []) hF hP hD hT (oq_lotOf hT (y9_156 / (2 : Int32)) (y9_156 - y9_156 / (2 : Int32) * (2 : Int32)) q27 hq27) (cwV 2 hts gL_isSo_X7_lotOf rfl rfl rfl (by decide +kernel) ⟨(Nat.le_of_ble_eq_true rfl), (Nat.le_of_ble_eq_true rfl)⟩) rfl rfl hl.1 (Nat.le_of_ble_eq_true rfl) dL_isSo_177 ⟨Nat.zero_le _, Nat.zero_le _⟩ ?_
          refine lv_iload hx hb dL_isSo_180 (lv_at hl 6 rfl) ?_
          refine lv_iconst (v := (2 : Int32)) hx hb dL_isSo_182 (by decide) ?_
          refine lv_idiv hx hb dL_isSo_183 (by decide) ?_
          refine lv_aload_n hx hb dL_isSo_184 rfl (lv_at hl 1 rfl) ?_
          refine lv_bipush (v := (13 : Int32)) hx hb dL_isSo_185 (by decide) ?_
          refine va_iald hx hb hK hP 0 0 rfl rfl (show ¬ ((13 : Int32) < 0 ∨ 15 ≤ (13 : Int32).toNatClampNeg) by decide) dL_isSo_187 ?_
          refine lv_icmp_ge (tgt := 198) hx hb dL_isSo_188 (by decide) (fun hc28 => ?_) (fun hc28 => ?_)
          · replace hf := it hc28 hf
            refine lv_ldc hx hb hown k1_ dL_isSo_198 ?_
            exact J200 y9_156 (-1000004 : Int32) q27 ls (lv_sub hl [0, 1, 2, 3, 4, 6] rfl) hf
          · replace hf := ie hc28 hf
            refine lv_aload_n hx hb dL_isSo_191 rfl (lv_at hl 2 rfl) ?_
            refine lv_iload hx hb dL_isSo_192 (lv_at hl 6 rfl) ?_
            obtain ⟨hg29, hf⟩ := gd_s hf
            refine va_iald hx hb hK hP 2 0 rfl rfl hg29 dL_isSo_194 ?_
            refine lv_goto (tgt := 200) hx hb dL_isSo_195 (by decide) ?_
            exact J200 y9_156 (vh y9_156.toNatClampNeg) q27 ls (lv_sub hl [0, 1, 2, 3, 4, 6] rfl) hf
  have J153 : ∀ (y8_153 : Int32), ∀ ls : Array Slot, lv_has ls 11 [(0, .ref t0), (1, .ref bg), (3, .ref bh), (6, .ref bt), (7, .ref bx), (8, .int y8_153)] → f_L_isSo_J153 vg vu vh vc ve vt vx og y8_153 = some R → W p l e rmL_isSo s m args below meth c s.heap [] 0 0 Q (F0 m 153 ls []) := by
    intro y8_153 ls hl hf
    rw [f_L_isSo_J153] at hf
    refine lv_iconst (v := (0 : Int32)) hx hb dL_isSo_153 (by decide) ?_
    refine lv_istore (lv' := [(9, .int (0 : Int32)), (0, .ref t0), (1, .ref bg), (3, .ref bh), (6, .ref bt), (7, .ref bx), (8, .int y8_153)]) hx hb dL_isSo_154 hl (by decide) rfl (fun ls hl => ?_)
    exact L156 FU y8_153 (0 : Int32) ls (lv_sub hl [1, 2, 3, 4, 5, 6, 0] rfl) hf
  have L32 : ∀ n32 : Nat, ∀ (y8_32 : Int32) (y9_32 : Int32), ∀ ls : Array Slot, lv_has ls 11 [(0, .ref t0), (1, .ref bg), (2, .ref bu), (3, .ref bh), (6, .ref bt), (7, .ref bx), (8, .int y8_32), (9, .int y9_32)] → f_L_isSo_L32 vg vu vh vc ve vt vx og n32 y8_32 y9_32 = some R → W p l e rmL_isSo s m args below meth c s.heap [] 0 0 Q (F0 m 32 ls []) := by
    intro n32
    induction n32 with
    | zero => intro y8_32 y9_32 ls hl hf; rw [f_L_isSo_L32] at hf; cases hf
    | succ n32 IH32 =>
      intro y8_32 y9_32 ls hl hf
      have J145 : ∀ (y9_145 : Int32) (z0_145 : Int32), ∀ ls : Array Slot, lv_has ls 11 [(0, .ref t0), (1, .ref bg), (2, .ref bu), (3, .ref bh), (6, .ref bt), (7, .ref bx), (9, .int y9_145)] → f_L_isSo_J145 (f_L_isSo_L32 vg vu vh vc ve vt vx og n32) vg vu vh vc ve vt vx og y9_145 z0_145 = some R → W p l e rmL_isSo s m args below meth c s.heap [] 0 0 Q (F0 m 145 ls [.int z0_145]) := by
        intro y9_145 z0_145 ls hl hf
        rw [f_L_isSo_J145] at hf
        refine lv_istore (lv' := [(8, .int z0_145), (0, .ref t0), (1, .ref bg), (2, .ref bu), (3, .ref bh), (6, .ref bt), (7, .ref bx), (9, .int y9_145)]) hx hb dL_isSo_145 hl (by decide) rfl (fun ls hl => ?_)
        obtain ⟨v24, ev24⟩ : ∃ z : Int32, z = y9_145 + (1 : Int32) := ⟨_, rfl⟩
        replace hf := lt_e ev24 hf
        refine lv_iinc (v := v24) (lv' := [(9, .int v24), (8, .int z0_145), (0, .ref t0), (1, .ref bg), (2, .ref bu), (3, .ref bh), (6, .ref bt), (7, .ref bx)]) hx hb dL_isSo_147 hl (k := 7) rfl (by rw [ev24]; rfl) (by decide) rfl (fun ls hl => ?_)
        refine lv_goto (tgt := 32) hx hb dL_isSo_150 (by decide) ?_
        exact IH32 z0_145 v24 ls (lv_sub hl [2, 3, 4, 5, 6, 7, 1, 0] rfl) hf
      have J144 : ∀ (y9_144 : Int32), ∀ ls : Array Slot, lv_has ls 11 [(0, .ref t0), (1, .ref bg), (2, .ref bu), (3, .ref bh), (6, .ref bt), (7, .ref bx), (9, .int y9_144)] → f_L_isSo_J144 (f_L_isSo_L32 vg vu vh vc ve vt vx og n32) vg vu vh vc ve vt vx og y9_144 = some R → W p l e rmL_isSo s m args below meth c s.heap [] 0 0 Q (F0 m 144 ls []) := by
        intro y9_144 ls hl hf
        rw [f_L_isSo_J144] at hf
        refine lv_iconst (v := (0 : Int32)) hx hb dL_isSo_144 (by decide) ?_
        exact J145 y9_144 (0 : Int32) ls (lv_sub hl [0, 1, 2, 3, 4, 5, 6] rfl) hf
      rw [f_L_isSo_L32] at hf
      refine lv_iload hx hb dL_isSo_32 (lv_at hl 7 rfl) ?_
      refine lv_iconst (v := (2 : Int32)) hx hb dL_isSo_34 (by decide) ?_
      refine lv_icmp_ge (tgt := 153) hx hb dL_isSo_35 (by decide) (fun hc5 => ?_) (fun hc5 => ?_)
      · replace hf := it hc5 hf
        exact J153 y8_32 ls (lv_sub hl [0, 1, 3, 4, 5, 6] rfl) hf
      · replace hf := ie hc5 hf
        refine lv_iload hx hb dL_isSo_38 (lv_at hl 6 rfl) ?_
        refine lv_if_eq (tgt := 153) hx hb dL_isSo_40 (by decide) (fun hc6 => ?_) (fun hc6 => ?_)
        · replace hf := it hc6 hf
          exact J153 y8_32 ls (lv_sub hl [0, 1, 3, 4, 5, 6] rfl) hf
        · replace hf := ie hc6 hf
          refine lv_aload_n hx hb dL_isSo_43 rfl (lv_at hl 0 rfl) ?_
          refine lv_iload hx hb dL_isSo_44 (lv_at hl 7 rfl) ?_
          refine lv_iconst (v := (0 : Int32)) hx hb dL_isSo_46 (by decide) ?_
          obtain ⟨q7, hq7, hf⟩ := ob hf
          refine cl_RO (As := [.int y9_32, .int (0 : Int32)]) (rest := []) hF hP hD hT (oq_burrOf hT y9_32 (0 : Int32) q7 hq7) (cwV 2 hts gL_isSo_X7_burrOf rfl rfl rfl (by decide +kernel) ⟨(Nat.le_of_ble_eq_true rfl), (Nat.le_of_ble_eq_true rfl)⟩) rfl rfl hl.1 (Nat.le_of_ble_eq_true rfl) dL_isSo_47 ⟨Nat.zero_le _, Nat.zero_le _⟩ ?_
          refine lv_aload_n hx hb dL_isSo_50 rfl (lv_at hl 2 rfl) ?_
          refine lv_iconst (v := (4 : Int32)) hx hb dL_isSo_51 (by decide) ?_
          refine lv_iload hx hb dL_isSo_52 (lv_at hl 7 rfl) ?_
          refine lv_imul hx hb dL_isSo_54 ?_
          obtain ⟨hg8, hf⟩ := gd_s hf
          refine va_iald hx hb hK hP 1 0 rfl rfl hg8 dL_isSo_55 ?_
          refine lv_icmp_ne (tgt := 144) hx hb dL_isSo_56 (by decide) (fun hc9 => ?_) (fun hc9 => ?_)
          · replace hf := ie hc9 hf
            exact J144 y9_32 ls (lv_sub hl [0, 1, 2, 3, 4, 5, 7] rfl) hf
          · replace hf := it hc9 hf
            refine lv_aload_n hx hb dL_isSo_59 rfl (lv_at hl 0 rfl) ?_
            refine lv_iload hx hb dL_isSo_60 (lv_at hl 7 rfl) ?_
            refine lv_iconst (v := (1 : Int32)) hx hb dL_isSo_62 (by decide) ?_
            obtain ⟨q10, hq10, hf⟩ := ob hf
            refine cl_RO (As := [.int y9_32, .int (1 : Int32)]) (rest := []) hF hP hD hT (oq_burrOf hT y9_32 (1 : Int32) q10 hq10) (cwV 2 hts gL_isSo_X7_burrOf rfl rfl rfl (by decide +kernel) ⟨(Nat.le_of_ble_eq_true rfl), (Nat.le_of_ble_eq_true rfl)⟩) rfl rfl hl.1 (Nat.le_of_ble_eq_true rfl) dL_isSo_63 ⟨Nat.zero_le _, Nat.zero_le _⟩ ?_
            refine lv_aload_n hx hb dL_isSo_66 rfl (lv_at hl 2 rfl) ?_
            refine lv_iconst (v := (4 : Int32)) hx hb dL_isSo_67 (by decide) ?_
            refine lv_iload hx hb dL_isSo_68 (lv_at hl 7 rfl) ?_
            refine lv_imul hx hb dL_isSo_70 ?_
            refine lv_iconst (v := (1 : Int32)) hx hb dL_isSo_71 (by decide) ?_
            refine lv_iadd hx hb dL_isSo_72 ?_
            obtain ⟨hg11, hf⟩ := gd_s hf
            refine va_iald hx hb hK hP 1 0 rfl rfl hg11 dL_isSo_73 ?_
            refine lv_icmp_ne (tgt := 144) hx hb dL_isSo_74 (by decide) (fun hc12 => ?_) (fun hc12 => ?_)
            · replace hf := ie hc12 hf
              exact J144 y9_32 ls (lv_sub hl [0, 1, 2, 3, 4, 5, 7] rfl) hf
            · replace hf := it hc12 hf
              refine lv_aload_n hx hb dL_isSo_77 rfl (lv_at hl 0 rfl) ?_
              refine lv_iload hx hb dL_isSo_78 (lv_at hl 7 rfl) ?_
              refine lv_iconst (v := (2 : Int32)) hx hb dL_isSo_80 (by decide) ?_
              obtain ⟨q13, hq13, hf⟩ := ob hf
              refine cl_RO (As := [.int y9_32, .int (2 : Int32)]) (rest := []) hF hP hD hT (oq_burrOf hT y9_32 (2 : Int32) q13 hq13) (cwV 2 hts gL_isSo_X7_burrOf rfl rfl rfl (by decide +kernel) ⟨(Nat.le_of_ble_eq_true rfl), (Nat.le_of_ble_eq_true rfl)⟩) rfl rfl hl.1 (Nat.le_of_ble_eq_true rfl) dL_isSo_81 ⟨Nat.zero_le _, Nat.zero_le _⟩ ?_
              refine lv_aload_n hx hb dL_isSo_84 rfl (lv_at hl 2 rfl) ?_
              refine lv_iconst (v := (4 : Int32)) hx hb dL_isSo_85 (by decide) ?_
              refine lv_iload hx hb dL_isSo_86 (lv_at hl 7 rfl) ?_
              refine lv_imul hx hb dL_isSo_88 ?_
              obtain ⟨hg14, hf⟩ := gd_s hf
              refine va_iald hx hb hK hP 1 0 rfl rfl hg14 dL_isSo_89 ?_
              refine lv_aload_n hx hb dL_isSo_90 rfl (lv_at hl 2 rfl) ?_
              refine lv_iconst (v := (4 : Int32)) hx hb dL_isSo_91 (by decide) ?_
              refine lv_iload hx hb dL_isSo_92 (lv_at hl 7 rfl) ?_
              refine lv_imul hx hb dL_isSo_94 ?_
              refine lv_iconst (v := (1 : Int32)) hx hb dL_isSo_95 (by decide) ?_
              refine lv_iadd hx hb dL_isSo_96 ?_
              obtain ⟨hg15, hf⟩ := gd_s hf
              refine va_iald hx hb hK hP 1 0 rfl rfl hg15 dL_isSo_97 ?_
              obtain ⟨q16, hq16, hf⟩ := ob hf
              refine cl_RSL (X0 := [(bg, .inl (cI, 15, .inl vg)), (bu, .inl (cI, 8, .inl vu)), (bh, .inl (cI, 12, .inl vh)), (bc, .inl (cI, 64, .inl vc)), (be, .inl (cI, 64, .inl ve)), (bt, .inl (cI, 36, .inl vt)), (bx, .inl (cI, 48, .inl vx))]) (As := [.int (vu ((4 : Int32) * y9_32).toNatClampNeg), .int (vu (((4 : Int32) * y9_32) + (1 : Int32)).toNatClampNeg)]) (rest := [.int q13]) hF hP hD (c_L_gap (vu ((4 : Int32) * y9_32).toNatClampNeg) (vu (((4 : Int32) * y9_32) + (1 : Int32)).toNatClampNeg) q16 hq16) (va_cwS 2 hts gL_isSo_L_gap rfl rfl rfl (by decide +kernel) ⟨(Nat.le_of_ble_eq_true rfl), (Nat.le_of_ble_eq_true rfl)⟩) [] rfl (by decide +kernel) rfl rfl hl.1 (Nat.le_of_ble_eq_true rfl) dL_isSo_98 ⟨Nat.zero_le _, Nat.zero_le _⟩ ?_
              refine lv_icmp_ne (tgt := 144) hx hb dL_isSo_101 (by decide) (fun hc17 => ?_) (fun hc17 => ?_)
              · replace hf := ie hc17 hf
                exact J144 y9_32 ls (lv_sub hl [0, 1, 2, 3, 4, 5, 7] rfl) hf
              · replace hf := it hc17 hf
                refine lv_aload_n hx hb dL_isSo_104 rfl (lv_at hl 0 rfl) ?_
                refine lv_iload hx hb dL_isSo_105 (lv_at hl 7 rfl) ?_
                refine lv_iconst (v := (3 : Int32)) hx hb dL_isSo_107 (by decide) ?_
                obtain ⟨q18, hq18, hf⟩ := ob hf
                refine cl_RO (As := [.int y9_32, .int (3 : Int32)]) (rest := []) hF hP hD hT (oq_burrOf hT y9_32 (3 : Int32) q18 hq18) (cwV 2 hts gL_isSo_X7_burrOf rfl rfl rfl (by decide +kernel) ⟨(Nat.le_of_ble_eq_true rfl), (Nat.le_of_ble_eq_true rfl)⟩) rfl rfl hl.1 (Nat.le_of_ble_eq_true rfl) dL_isSo_108 ⟨Nat.zero_le _, Nat.zero_le _⟩ ?_
                refine lv_aload_n hx hb dL_isSo_111 rfl (lv_at hl 2 rfl) ?_
                refine lv_iconst (v := (4 : Int32)) hx hb dL_isSo_112 (by decide) ?_
                refine lv_iload hx hb dL_isSo_113 (lv_at hl 7 rfl) ?_
                refine lv_imul hx hb dL_isSo_115 ?_
                refine lv_iconst (v := (2 : Int32)) hx hb dL_isSo_116 (by decide) ?_
                refine lv_iadd hx hb dL_isSo_117 ?_
                obtain ⟨hg19, hf⟩ := gd_s hf
                refine va_iald hx hb hK hP 1 0 rfl rfl hg19 dL_isSo_118 ?_
                refine lv_icmp_ne (tgt := 144) hx hb dL_isSo_119 (by decide) (fun hc20 => ?_) (fun hc20 => ?_)
                · replace hf := ie hc20 hf
                  exact J144 y9_32 ls (lv_sub hl [0, 1, 2, 3, 4, 5, 7] rfl) hf
                · replace hf := it hc20 hf
                  refine lv_aload_n hx hb dL_isSo_122 rfl (lv_at hl 0 rfl) ?_
                  refine lv_iload hx hb dL_isSo_123 (lv_at hl 7 rfl) ?_
                  refine lv_iconst (v := (4 : Int32)) hx hb dL_isSo_125 (by decide) ?_
                  obtain ⟨q21, hq21, hf⟩ := ob hf
                  refine cl_RO (As := [.int y9_32, .int (4 : Int32)]) (rest := []) hF hP hD hT (oq_burrOf hT y9_32 (4 : Int32) q21 hq21) (cwV 2 hts gL_isSo_X7_burrOf rfl rfl rfl (by decide +kernel) ⟨(Nat.le_of_ble_eq_true rfl), (Nat.le_of_ble_eq_true rfl)⟩) rfl rfl hl.1 (Nat.le_of_ble_eq_true rfl) dL_isSo_126 ⟨Nat.zero_le _, Nat.zero_le _⟩ ?_
                  refine lv_aload_n hx hb dL_isSo_129 rfl (lv_at hl 2 rfl) ?_
                  refine lv_iconst (v := (4 : Int32)) hx hb dL_isSo_130 (by decide) ?_
                  refine lv_iload hx hb dL_isSo_131 (lv_at hl 7 rfl) ?_
                  refine lv_imul hx hb dL_isSo_133 ?_
                  refine lv_iconst (v := (3 : Int32)) hx hb dL_isSo_134 (by decide) ?_
                  refine lv_iadd hx hb dL_isSo_135 ?_
                  obtain ⟨hg22, hf⟩ := gd_s hf
                  refine va_iald hx hb hK hP 1 0 rfl rfl hg22 dL_isSo_136 ?_
                  refine lv_icmp_ne (tgt := 144) hx hb dL_isSo_137 (by decide) (fun hc23 => ?_) (fun hc23 => ?_)
                  · replace hf := ie hc23 hf
                    exact J144 y9_32 ls (lv_sub hl [0, 1, 2, 3, 4, 5, 7] rfl) hf
                  · replace hf := it hc23 hf
                    refine lv_iconst (v := (1 : Int32)) hx hb dL_isSo_140 (by decide) ?_
                    refine lv_goto (tgt := 145) hx hb dL_isSo_141 (by decide) ?_
                    exact J145 y9_32 (1 : Int32) ls (lv_sub hl [0, 1, 2, 3, 4, 5, 7] rfl) hf
  have J27 : ∀ (z0_27 : Int32), ∀ ls : Array Slot, lv_has ls 11 [(0, .ref t0), (1, .ref bg), (2, .ref bu), (3, .ref bh), (6, .ref bt), (7, .ref bx)] → f_L_isSo_J27 vg vu vh vc ve vt vx og z0_27 = some R → W p l e rmL_isSo s m args below meth c s.heap [] 0 0 Q (F0 m 27 ls [.int z0_27]) := by
    intro z0_27 ls hl hf
    rw [f_L_isSo_J27] at hf
    refine lv_istore (lv' := [(8, .int z0_27), (0, .ref t0), (1, .ref bg), (2, .ref bu), (3, .ref bh), (6, .ref bt), (7, .ref bx)]) hx hb dL_isSo_27 hl (by decide) rfl (fun ls hl => ?_)
    refine lv_iconst (v := (0 : Int32)) hx hb dL_isSo_29 (by decide) ?_
    refine lv_istore (lv' := [(9, .int (0 : Int32)), (8, .int z0_27), (0, .ref t0), (1, .ref bg), (2, .ref bu), (3, .ref bh), (6, .ref bt), (7, .ref bx)]) hx hb dL_isSo_30 hl (by decide) rfl (fun ls hl => ?_)
    exact L32 FU z0_27 (0 : Int32) ls (lv_sub hl [2, 3, 4, 5, 6, 7, 1, 0] rfl) hf
  have J26 : ∀ ls : Array Slot, lv_has ls 11 [(0, .ref t0), (1, .ref bg), (2, .ref bu), (3, .ref bh), (6, .ref bt), (7, .ref bx)] → f_L_isSo_J26 vg vu vh vc ve vt vx og = some R → W p l e rmL_isSo s m args below meth c s.heap [] 0 0 Q (F0 m 26 ls []) := by
    intro  ls hl hf
    rw [f_L_isSo_J26] at hf
    refine lv_iconst (v := (0 : Int32)) hx hb dL_isSo_26 (by decide) ?_
    exact J27 (0 : Int32) ls (lv_sub hl [0, 1, 2, 3, 4, 5] rfl) hf
  rw [f_L_isSo] at hf
  refine lv_aload_n hx hb dL_isSo_0 rfl (lv_at hl 0 rfl) ?_
  refine lv_aload_n hx hb dL_isSo_1 rfl (lv_at hl 1 rfl) ?_
  refine lv_iconst (v := (0 : Int32)) hx hb dL_isSo_2 (by decide) ?_
  refine lv_aload hx hb dL_isSo_3 (lv_at hl 4 rfl) ?_
  obtain ⟨q1, hq1, hf⟩ := ob hf
  refine cl_RSO (X0 := [(bg, .inl (cI, 15, .inl vg)), (bu, .inl (cI, 8, .inl vu)), (bh, .inl (cI, 12, .inl vh)), (bc, .inl (cI, 64, .inl vc)), (be, .inl (cI, 64, .inl ve)), (bt, .inl (cI, 36, .inl vt)), (bx, .inl (cI, 48, .inl vx))]) (As := [.ref t0, .ref bg, .int (0 : Int32), .ref bc]) (rest := []) hF hP hD (c_L_arePortions bg bc t0 (0 : Int32) vg vc og hT q1 hq1) (va_cwS 4 hts gL_isSo_L_arePortions rfl rfl rfl (by decide +kernel) ⟨(Nat.le_of_ble_eq_true rfl), (Nat.le_of_ble_eq_true rfl)⟩) [0, 3] rfl (nX := 7) rfl (by decide +kernel) rfl rfl hl.1 (Nat.le_of_ble_eq_true rfl) dL_isSo_5 ⟨Nat.zero_le _, Nat.zero_le _⟩ ?_
  refine lv_if_eq (tgt := 26) hx hb dL_isSo_8 (by decide) (fun hc2 => ?_) (fun hc2 => ?_)
  · replace hf := it hc2 hf
    exact J26  ls (lv_sub hl [0, 1, 2, 3, 6, 7] rfl) hf
  · replace hf := ie hc2 hf
    refine lv_aload_n hx hb dL_isSo_11 rfl (lv_at hl 0 rfl) ?_
    refine lv_aload_n hx hb dL_isSo_12 rfl (lv_at hl 1 rfl) ?_
    refine lv_iconst (v := (1 : Int32)) hx hb dL_isSo_13 (by decide) ?_
    refine lv_aload hx hb dL_isSo_14 (lv_at hl 5 rfl) ?_
    obtain ⟨q3, hq3, hf⟩ := ob hf
    refine cl_RSO (X0 := [(bg, .inl (cI, 15, .inl vg)), (bu, .inl (cI, 8, .inl vu)), (bh, .inl (cI, 12, .inl vh)), (bc, .inl (cI, 64, .inl vc)), (be, .inl (cI, 64, .inl ve)), (bt, .inl (cI, 36, .inl vt)), (bx, .inl (cI, 48, .inl vx))]) (As := [.ref t0, .ref bg, .int (1 : Int32), .ref be]) (rest := []) hF hP hD (c_L_arePortions bg be t0 (1 : Int32) vg ve og hT q3 hq3) (va_cwS 4 hts gL_isSo_L_arePortions rfl rfl rfl (by decide +kernel) ⟨(Nat.le_of_ble_eq_true rfl), (Nat.le_of_ble_eq_true rfl)⟩) [0, 4] rfl (nX := 7) rfl (by decide +kernel) rfl rfl hl.1 (Nat.le_of_ble_eq_true rfl) dL_isSo_16 ⟨Nat.zero_le _, Nat.zero_le _⟩ ?_
    refine lv_if_eq (tgt := 26) hx hb dL_isSo_19 (by decide) (fun hc4 => ?_) (fun hc4 => ?_)
    · replace hf := it hc4 hf
      exact J26  ls (lv_sub hl [0, 1, 2, 3, 6, 7] rfl) hf
    · replace hf := ie hc4 hf
      refine lv_iconst (v := (1 : Int32)) hx hb dL_isSo_22 (by decide) ?_
      refine lv_goto (tgt := 27) hx hb dL_isSo_23 (by decide) ?_
      exact J27 (1 : Int32) ls (lv_sub hl [0, 1, 2, 3, 6, 7] rfl) hf
end
