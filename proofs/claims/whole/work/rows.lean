section
-- ===== PART A: goes FIRST, ahead of the names: the tables' words, and 'selects' of the private methods out of them =====
/-- a private method of a class that the tables say can be made, by its rows of tables_1 -/
def lw_okq (q : MethodName × Nat) : Prop := (q.1.cls ≠ "java/lang/invoke/MethodHandle" ∧ q.1.cls ≠ "java/lang/invoke/VarHandle") ∧ Cond.instantiable q.1.cls q.2 ∈ tables_1 ∧ Cond.privateMethod q.1 ∈ tables_1 ∧ Cond.instanceMethod q.1 ∈ tables_1
theorem lw_p0 : lw_okq (⟨"DriftGrinders", "spareLikeNow", "()LDriftGrinders$Grinder;"⟩, 4) := ⟨⟨by decide +kernel, by decide +kernel⟩, List.mem_of_getElem? (i := 13) (by decide +kernel), List.mem_of_getElem? (i := 229) (by decide +kernel), List.mem_of_getElem? (i := 230) (by decide +kernel)⟩
theorem lw_p1 : lw_okq (⟨"DriftGrinders$Hopper", "endsWith", "(I)Z"⟩, 1) := ⟨⟨by decide +kernel, by decide +kernel⟩, List.mem_of_getElem? (i := 33) (by decide +kernel), List.mem_of_getElem? (i := 274) (by decide +kernel), List.mem_of_getElem? (i := 275) (by decide +kernel)⟩
theorem lw_p2 : lw_okq (⟨"DriftGrinders", "keepIfDone", "(I)I"⟩, 4) := ⟨⟨by decide +kernel, by decide +kernel⟩, List.mem_of_getElem? (i := 13) (by decide +kernel), List.mem_of_getElem? (i := 299) (by decide +kernel), List.mem_of_getElem? (i := 300) (by decide +kernel)⟩
theorem lw_p3 : lw_okq (⟨"DriftGrinders$Row", "dropFirst", "(I)V"⟩, 4) := ⟨⟨by decide +kernel, by decide +kernel⟩, List.mem_of_getElem? (i := 39) (by decide +kernel), List.mem_of_getElem? (i := 345) (by decide +kernel), List.mem_of_getElem? (i := 346) (by decide +kernel)⟩
theorem lw_p4 : lw_okq (⟨"DriftGrinders$Grinder", "passSeconds", "(I)V"⟩, 13) := ⟨⟨by decide +kernel, by decide +kernel⟩, List.mem_of_getElem? (i := 27) (by decide +kernel), List.mem_of_getElem? (i := 355) (by decide +kernel), List.mem_of_getElem? (i := 356) (by decide +kernel)⟩
theorem lw_p5 : lw_okq (⟨"DriftGrinders$Grinder", "flowOfMark", "(I)I"⟩, 13) := ⟨⟨by decide +kernel, by decide +kernel⟩, List.mem_of_getElem? (i := 27) (by decide +kernel), List.mem_of_getElem? (i := 399) (by decide +kernel), List.mem_of_getElem? (i := 400) (by decide +kernel)⟩
theorem lw_p6 : lw_okq (⟨"DriftGrinders$Grinder", "hardnessOf", "(I)I"⟩, 13) := ⟨⟨by decide +kernel, by decide +kernel⟩, List.mem_of_getElem? (i := 27) (by decide +kernel), List.mem_of_getElem? (i := 406) (by decide +kernel), List.mem_of_getElem? (i := 407) (by decide +kernel)⟩
theorem lw_p7 : lw_okq (⟨"DriftGrinders$Grinder", "judge", "(ILDriftGrinders$Burr;)V"⟩, 13) := ⟨⟨by decide +kernel, by decide +kernel⟩, List.mem_of_getElem? (i := 27) (by decide +kernel), List.mem_of_getElem? (i := 429) (by decide +kernel), List.mem_of_getElem? (i := 430) (by decide +kernel)⟩
theorem lw_p8 : lw_okq (⟨"DriftGrinders$Shots", "awayFrom", "(II)I"⟩, 3) := ⟨⟨by decide +kernel, by decide +kernel⟩, List.mem_of_getElem? (i := 90) (by decide +kernel), List.mem_of_getElem? (i := 515) (by decide +kernel), List.mem_of_getElem? (i := 516) (by decide +kernel)⟩
theorem lw_p9 : lw_okq (⟨"DriftGrinders$Shots", "placeOf", "(II)I"⟩, 3) := ⟨⟨by decide +kernel, by decide +kernel⟩, List.mem_of_getElem? (i := 90) (by decide +kernel), List.mem_of_getElem? (i := 528) (by decide +kernel), List.mem_of_getElem? (i := 529) (by decide +kernel)⟩
theorem lw_p10 : lw_okq (⟨"DriftGrinders$Grinder", "awayAtDial", "(ILDriftGrinders$Burr;I)I"⟩, 13) := ⟨⟨by decide +kernel, by decide +kernel⟩, List.mem_of_getElem? (i := 27) (by decide +kernel), List.mem_of_getElem? (i := 545) (by decide +kernel), List.mem_of_getElem? (i := 546) (by decide +kernel)⟩
theorem lw_p11 : lw_okq (⟨"DriftGrinders$Grinder", "tellSetting", "(I)I"⟩, 13) := ⟨⟨by decide +kernel, by decide +kernel⟩, List.mem_of_getElem? (i := 27) (by decide +kernel), List.mem_of_getElem? (i := 591) (by decide +kernel), List.mem_of_getElem? (i := 592) (by decide +kernel)⟩
theorem lw_p12 : lw_okq (⟨"DriftGrinders$Orders", "readOrder", "()Z"⟩, 10) := ⟨⟨by decide +kernel, by decide +kernel⟩, List.mem_of_getElem? (i := 170) (by decide +kernel), List.mem_of_getElem? (i := 626) (by decide +kernel), List.mem_of_getElem? (i := 627) (by decide +kernel)⟩
theorem lw_p13 : lw_okq (⟨"DriftGrinders$Orders", "signHere", "()C"⟩, 10) := ⟨⟨by decide +kernel, by decide +kernel⟩, List.mem_of_getElem? (i := 170) (by decide +kernel), List.mem_of_getElem? (i := 630) (by decide +kernel), List.mem_of_getElem? (i := 631) (by decide +kernel)⟩
theorem lw_p14 : lw_okq (⟨"DriftGrinders$Orders", "readFirstNumber", "()Z"⟩, 10) := ⟨⟨by decide +kernel, by decide +kernel⟩, List.mem_of_getElem? (i := 170) (by decide +kernel), List.mem_of_getElem? (i := 634) (by decide +kernel), List.mem_of_getElem? (i := 635) (by decide +kernel)⟩
theorem lw_p15 : lw_okq (⟨"DriftGrinders$Orders", "readNumber", "()I"⟩, 10) := ⟨⟨by decide +kernel, by decide +kernel⟩, List.mem_of_getElem? (i := 170) (by decide +kernel), List.mem_of_getElem? (i := 638) (by decide +kernel), List.mem_of_getElem? (i := 639) (by decide +kernel)⟩
def lw_privs_1 : List (MethodName × Nat) := [(⟨"DriftGrinders", "spareLikeNow", "()LDriftGrinders$Grinder;"⟩, 4), (⟨"DriftGrinders$Hopper", "endsWith", "(I)Z"⟩, 1), (⟨"DriftGrinders", "keepIfDone", "(I)I"⟩, 4), (⟨"DriftGrinders$Row", "dropFirst", "(I)V"⟩, 4), (⟨"DriftGrinders$Grinder", "passSeconds", "(I)V"⟩, 13), (⟨"DriftGrinders$Grinder", "flowOfMark", "(I)I"⟩, 13), (⟨"DriftGrinders$Grinder", "hardnessOf", "(I)I"⟩, 13), (⟨"DriftGrinders$Grinder", "judge", "(ILDriftGrinders$Burr;)V"⟩, 13), (⟨"DriftGrinders$Shots", "awayFrom", "(II)I"⟩, 3), (⟨"DriftGrinders$Shots", "placeOf", "(II)I"⟩, 3), (⟨"DriftGrinders$Grinder", "awayAtDial", "(ILDriftGrinders$Burr;I)I"⟩, 13), (⟨"DriftGrinders$Grinder", "tellSetting", "(I)I"⟩, 13), (⟨"DriftGrinders$Orders", "readOrder", "()Z"⟩, 10), (⟨"DriftGrinders$Orders", "signHere", "()C"⟩, 10), (⟨"DriftGrinders$Orders", "readFirstNumber", "()Z"⟩, 10), (⟨"DriftGrinders$Orders", "readNumber", "()I"⟩, 10)]
theorem lw_r1 : ∀ q ∈ lw_privs_1, lw_okq q := List.forall_mem_cons.mpr ⟨lw_p0, List.forall_mem_cons.mpr ⟨lw_p1, List.forall_mem_cons.mpr ⟨lw_p2, List.forall_mem_cons.mpr ⟨lw_p3, List.forall_mem_cons.mpr ⟨lw_p4, List.forall_mem_cons.mpr ⟨lw_p5, List.forall_mem_cons.mpr ⟨lw_p6, List.forall_mem_cons.mpr ⟨lw_p7, List.forall_mem_cons.mpr ⟨lw_p8, List.forall_mem_cons.mpr ⟨lw_p9, List.forall_mem_cons.mpr ⟨lw_p10, List.forall_mem_cons.mpr ⟨lw_p11, List.forall_mem_cons.mpr ⟨lw_p12, List.forall_mem_cons.mpr ⟨lw_p13, List.forall_mem_cons.mpr ⟨lw_p14, List.forall_mem_cons.mpr ⟨lw_p15, fun _ h => absurd h List.not_mem_nil⟩⟩⟩⟩⟩⟩⟩⟩⟩⟩⟩⟩⟩⟩⟩⟩
theorem lw_p16 : lw_okq (⟨"DriftGrinders$Orders", "passSign", "(C)Z"⟩, 10) := ⟨⟨by decide +kernel, by decide +kernel⟩, List.mem_of_getElem? (i := 170) (by decide +kernel), List.mem_of_getElem? (i := 646) (by decide +kernel), List.mem_of_getElem? (i := 647) (by decide +kernel)⟩
theorem lw_p17 : lw_okq (⟨"DriftGrinders$Orders", "readSecondNumber", "()Z"⟩, 10) := ⟨⟨by decide +kernel, by decide +kernel⟩, List.mem_of_getElem? (i := 170) (by decide +kernel), List.mem_of_getElem? (i := 650) (by decide +kernel), List.mem_of_getElem? (i := 651) (by decide +kernel)⟩
theorem lw_p18 : lw_okq (⟨"DriftGrinders$Orders", "blame", "(III)V"⟩, 10) := ⟨⟨by decide +kernel, by decide +kernel⟩, List.mem_of_getElem? (i := 170) (by decide +kernel), List.mem_of_getElem? (i := 654) (by decide +kernel), List.mem_of_getElem? (i := 655) (by decide +kernel)⟩
theorem lw_p19 : lw_okq (⟨"DriftGrinders$Orders", "doOrderOn", "(LDriftGrinders$Grinder;)I"⟩, 10) := ⟨⟨by decide +kernel, by decide +kernel⟩, List.mem_of_getElem? (i := 170) (by decide +kernel), List.mem_of_getElem? (i := 658) (by decide +kernel), List.mem_of_getElem? (i := 659) (by decide +kernel)⟩
theorem lw_p20 : lw_okq (⟨"DriftGrindersModel", "hopper", "()I"⟩, 15) := ⟨⟨by decide +kernel, by decide +kernel⟩, List.mem_of_getElem? (i := 682) (by decide +kernel), List.mem_of_getElem? (i := 745) (by decide +kernel), List.mem_of_getElem? (i := 746) (by decide +kernel)⟩
theorem lw_p21 : lw_okq (⟨"DriftGrindersModel", "changes", "()V"⟩, 15) := ⟨⟨by decide +kernel, by decide +kernel⟩, List.mem_of_getElem? (i := 682) (by decide +kernel), List.mem_of_getElem? (i := 750) (by decide +kernel), List.mem_of_getElem? (i := 751) (by decide +kernel)⟩
theorem lw_p22 : lw_okq (⟨"DriftGrindersModel", "couldGrind", "(II)I"⟩, 15) := ⟨⟨by decide +kernel, by decide +kernel⟩, List.mem_of_getElem? (i := 682) (by decide +kernel), List.mem_of_getElem? (i := 758) (by decide +kernel), List.mem_of_getElem? (i := 759) (by decide +kernel)⟩
theorem lw_p23 : lw_okq (⟨"DriftGrindersModel", "amounts", "(II)I"⟩, 15) := ⟨⟨by decide +kernel, by decide +kernel⟩, List.mem_of_getElem? (i := 682) (by decide +kernel), List.mem_of_getElem? (i := 763) (by decide +kernel), List.mem_of_getElem? (i := 764) (by decide +kernel)⟩
theorem lw_p24 : lw_okq (⟨"DriftGrindersModel", "grinds", "(II)V"⟩, 15) := ⟨⟨by decide +kernel, by decide +kernel⟩, List.mem_of_getElem? (i := 682) (by decide +kernel), List.mem_of_getElem? (i := 770) (by decide +kernel), List.mem_of_getElem? (i := 771) (by decide +kernel)⟩
theorem lw_p25 : lw_okq (⟨"DriftGrindersModel", "comes", "(II)V"⟩, 15) := ⟨⟨by decide +kernel, by decide +kernel⟩, List.mem_of_getElem? (i := 682) (by decide +kernel), List.mem_of_getElem? (i := 774) (by decide +kernel), List.mem_of_getElem? (i := 775) (by decide +kernel)⟩
theorem lw_p26 : lw_okq (⟨"DriftGrindersModel", "gap", "(I)I"⟩, 15) := ⟨⟨by decide +kernel, by decide +kernel⟩, List.mem_of_getElem? (i := 682) (by decide +kernel), List.mem_of_getElem? (i := 778) (by decide +kernel), List.mem_of_getElem? (i := 779) (by decide +kernel)⟩
theorem lw_p27 : lw_okq (⟨"DriftGrindersModel", "ofBurr", "(II)I"⟩, 15) := ⟨⟨by decide +kernel, by decide +kernel⟩, List.mem_of_getElem? (i := 682) (by decide +kernel), List.mem_of_getElem? (i := 782) (by decide +kernel), List.mem_of_getElem? (i := 783) (by decide +kernel)⟩
theorem lw_p28 : lw_okq (⟨"DriftGrindersModel", "overflows", "()V"⟩, 15) := ⟨⟨by decide +kernel, by decide +kernel⟩, List.mem_of_getElem? (i := 682) (by decide +kernel), List.mem_of_getElem? (i := 789) (by decide +kernel), List.mem_of_getElem? (i := 790) (by decide +kernel)⟩
theorem lw_p29 : lw_okq (⟨"DriftGrindersModel", "passes", "(I)I"⟩, 15) := ⟨⟨by decide +kernel, by decide +kernel⟩, List.mem_of_getElem? (i := 682) (by decide +kernel), List.mem_of_getElem? (i := 793) (by decide +kernel), List.mem_of_getElem? (i := 794) (by decide +kernel)⟩
theorem lw_p30 : lw_okq (⟨"DriftGrindersModel", "timeNow", "()I"⟩, 15) := ⟨⟨by decide +kernel, by decide +kernel⟩, List.mem_of_getElem? (i := 682) (by decide +kernel), List.mem_of_getElem? (i := 813) (by decide +kernel), List.mem_of_getElem? (i := 814) (by decide +kernel)⟩
theorem lw_p31 : lw_okq (⟨"DriftGrindersModel", "flowOf", "(I)I"⟩, 15) := ⟨⟨by decide +kernel, by decide +kernel⟩, List.mem_of_getElem? (i := 682) (by decide +kernel), List.mem_of_getElem? (i := 817) (by decide +kernel), List.mem_of_getElem? (i := 818) (by decide +kernel)⟩
def lw_privs_2 : List (MethodName × Nat) := [(⟨"DriftGrinders$Orders", "passSign", "(C)Z"⟩, 10), (⟨"DriftGrinders$Orders", "readSecondNumber", "()Z"⟩, 10), (⟨"DriftGrinders$Orders", "blame", "(III)V"⟩, 10), (⟨"DriftGrinders$Orders", "doOrderOn", "(LDriftGrinders$Grinder;)I"⟩, 10), (⟨"DriftGrindersModel", "hopper", "()I"⟩, 15), (⟨"DriftGrindersModel", "changes", "()V"⟩, 15), (⟨"DriftGrindersModel", "couldGrind", "(II)I"⟩, 15), (⟨"DriftGrindersModel", "amounts", "(II)I"⟩, 15), (⟨"DriftGrindersModel", "grinds", "(II)V"⟩, 15), (⟨"DriftGrindersModel", "comes", "(II)V"⟩, 15), (⟨"DriftGrindersModel", "gap", "(I)I"⟩, 15), (⟨"DriftGrindersModel", "ofBurr", "(II)I"⟩, 15), (⟨"DriftGrindersModel", "overflows", "()V"⟩, 15), (⟨"DriftGrindersModel", "passes", "(I)I"⟩, 15), (⟨"DriftGrindersModel", "timeNow", "()I"⟩, 15), (⟨"DriftGrindersModel", "flowOf", "(I)I"⟩, 15)]
theorem lw_r2 : ∀ q ∈ lw_privs_2, lw_okq q := List.forall_mem_cons.mpr ⟨lw_p16, List.forall_mem_cons.mpr ⟨lw_p17, List.forall_mem_cons.mpr ⟨lw_p18, List.forall_mem_cons.mpr ⟨lw_p19, List.forall_mem_cons.mpr ⟨lw_p20, List.forall_mem_cons.mpr ⟨lw_p21, List.forall_mem_cons.mpr ⟨lw_p22, List.forall_mem_cons.mpr ⟨lw_p23, List.forall_mem_cons.mpr ⟨lw_p24, List.forall_mem_cons.mpr ⟨lw_p25, List.forall_mem_cons.mpr ⟨lw_p26, List.forall_mem_cons.mpr ⟨lw_p27, List.forall_mem_cons.mpr ⟨lw_p28, List.forall_mem_cons.mpr ⟨lw_p29, List.forall_mem_cons.mpr ⟨lw_p30, List.forall_mem_cons.mpr ⟨lw_p31, fun _ h => absurd h List.not_mem_nil⟩⟩⟩⟩⟩⟩⟩⟩⟩⟩⟩⟩⟩⟩⟩⟩
theorem lw_p32 : lw_okq (⟨"DriftGrindersModel", "away", "(I)I"⟩, 15) := ⟨⟨by decide +kernel, by decide +kernel⟩, List.mem_of_getElem? (i := 682) (by decide +kernel), List.mem_of_getElem? (i := 830) (by decide +kernel), List.mem_of_getElem? (i := 831) (by decide +kernel)⟩
theorem lw_p33 : lw_okq (⟨"DriftGrindersModel", "corrects", "(II)V"⟩, 15) := ⟨⟨by decide +kernel, by decide +kernel⟩, List.mem_of_getElem? (i := 682) (by decide +kernel), List.mem_of_getElem? (i := 834) (by decide +kernel), List.mem_of_getElem? (i := 835) (by decide +kernel)⟩
theorem lw_p34 : lw_okq (⟨"DriftGrindersModel", "plays", "()Z"⟩, 15) := ⟨⟨by decide +kernel, by decide +kernel⟩, List.mem_of_getElem? (i := 682) (by decide +kernel), List.mem_of_getElem? (i := 915) (by decide +kernel), List.mem_of_getElem? (i := 916) (by decide +kernel)⟩
theorem lw_p35 : lw_okq (⟨"DriftGrindersModel", "reads", "()Z"⟩, 15) := ⟨⟨by decide +kernel, by decide +kernel⟩, List.mem_of_getElem? (i := 682) (by decide +kernel), List.mem_of_getElem? (i := 919) (by decide +kernel), List.mem_of_getElem? (i := 920) (by decide +kernel)⟩
theorem lw_p36 : lw_okq (⟨"DriftGrindersModel", "isAt", "(II)Z"⟩, 15) := ⟨⟨by decide +kernel, by decide +kernel⟩, List.mem_of_getElem? (i := 682) (by decide +kernel), List.mem_of_getElem? (i := 923) (by decide +kernel), List.mem_of_getElem? (i := 924) (by decide +kernel)⟩
theorem lw_p37 : lw_okq (⟨"DriftGrindersModel", "sign", "(I)Z"⟩, 15) := ⟨⟨by decide +kernel, by decide +kernel⟩, List.mem_of_getElem? (i := 682) (by decide +kernel), List.mem_of_getElem? (i := 927) (by decide +kernel), List.mem_of_getElem? (i := 928) (by decide +kernel)⟩
theorem lw_p38 : lw_okq (⟨"DriftGrindersModel", "number", "(I)Z"⟩, 15) := ⟨⟨by decide +kernel, by decide +kernel⟩, List.mem_of_getElem? (i := 682) (by decide +kernel), List.mem_of_getElem? (i := 931) (by decide +kernel), List.mem_of_getElem? (i := 932) (by decide +kernel)⟩
theorem lw_p39 : lw_okq (⟨"DriftGrindersModel", "calls", "()I"⟩, 15) := ⟨⟨by decide +kernel, by decide +kernel⟩, List.mem_of_getElem? (i := 682) (by decide +kernel), List.mem_of_getElem? (i := 935) (by decide +kernel), List.mem_of_getElem? (i := 936) (by decide +kernel)⟩
def lw_privs_3 : List (MethodName × Nat) := [(⟨"DriftGrindersModel", "away", "(I)I"⟩, 15), (⟨"DriftGrindersModel", "corrects", "(II)V"⟩, 15), (⟨"DriftGrindersModel", "plays", "()Z"⟩, 15), (⟨"DriftGrindersModel", "reads", "()Z"⟩, 15), (⟨"DriftGrindersModel", "isAt", "(II)Z"⟩, 15), (⟨"DriftGrindersModel", "sign", "(I)Z"⟩, 15), (⟨"DriftGrindersModel", "number", "(I)Z"⟩, 15), (⟨"DriftGrindersModel", "calls", "()I"⟩, 15)]
theorem lw_r3 : ∀ q ∈ lw_privs_3, lw_okq q := List.forall_mem_cons.mpr ⟨lw_p32, List.forall_mem_cons.mpr ⟨lw_p33, List.forall_mem_cons.mpr ⟨lw_p34, List.forall_mem_cons.mpr ⟨lw_p35, List.forall_mem_cons.mpr ⟨lw_p36, List.forall_mem_cons.mpr ⟨lw_p37, List.forall_mem_cons.mpr ⟨lw_p38, List.forall_mem_cons.mpr ⟨lw_p39, fun _ h => absurd h List.not_mem_nil⟩⟩⟩⟩⟩⟩⟩⟩
def lw_privs : List (MethodName × Nat) := lw_privs_1 ++ (lw_privs_2 ++ (lw_privs_3))
def lw_tbl : List Cond := k2_sels lw_privs ++ tables_1
theorem lw_privs_ok : ∀ q ∈ lw_privs, lw_okq q := by
  show ∀ q ∈ lw_privs_1 ++ (lw_privs_2 ++ (lw_privs_3)), lw_okq q
  exact List.forall_mem_append.mpr ⟨lw_r1, List.forall_mem_append.mpr ⟨lw_r2, lw_r3⟩⟩
-- ===== end of PART A; then your names; then what follows =====
end
section
/-! ===== BEGIN words of one list among another's, by their places ===== -/
theorem goodIn_r {big : List Cond} (ws : List Cond) (ps : List Nat) (hp : ws = ps.filterMap (fun i => big[i]?)) (h : ws.all goodWord = true) : GoodIn big ws := by
  intro w hw
  have h1 := List.all_eq_true.mp h w hw
  rw [hp] at hw
  obtain ⟨i, -, hi⟩ := List.mem_filterMap.mp hw
  have hm : w ∈ big := by first | exact List.mem_of_getElem? hi | exact List.getElem?_mem hi
  exact ⟨hm, good_of_word h1⟩
theorem goodIn_app {big a b : List Cond} (ha : GoodIn big a) (hb : GoodIn big b) : GoodIn big (a ++ b) := fun w h => (List.mem_append.mp h).elim (ha w) (hb w)
theorem goodIn_ca {big a b : List Cond} {c : Cond} (ha : GoodIn big (c :: a)) (hb : GoodIn big b) : GoodIn big (c :: (a ++ b)) := fun w h => (List.mem_cons.mp h).elim (fun e => ha w (List.mem_cons.mpr (Or.inl e))) (fun h => (List.mem_append.mp h).elim (fun h => ha w (List.mem_cons.mpr (Or.inr h))) (hb w))
theorem goodIn_sub {big ws : List Cond} (hm : ∀ w ∈ ws, w ∈ big) (h : ws.all goodWord = true) : GoodIn big ws := fun w hw => ⟨hm w hw, good_of_word (List.all_eq_true.mp h w hw)⟩
/-! ===== END ===== -/

/-! ===== BEGIN printed: names, fields, word lists, decode rows ===== -/
def RX0 : String := "DriftGrinders$Burr"
def TX0 : u_T := fun k => match k with
  | 0 => ("DriftGrinders$Burr", "dial", "I", false)
  | 1 => ("DriftGrinders$Burr", "warmth", "I", false)
  | 2 => ("DriftGrinders$Burr", "ground", "I", false)
  | _ => ("DriftGrinders$Burr", "corrections", "I", false)
def tyX0 : Nat → FieldType := fun k => match k with
  | 0 => .int
  | 1 => .int
  | 2 => .int
  | _ => .int
abbrev wsX00 : List Cond := u_ws RX0 TX0 4
theorem nmX0 : ∀ a, a < 4 → ∀ b, b < 4 → a ≠ b → (TX0 a).2.1 ≠ (TX0 b).2.1 := by decide +kernel
theorem tyX0_ok : ∀ k, k < 4 → parseFieldDescriptor (TX0 k).2.2.1 = some (tyX0 k) := by decide +kernel
abbrev cX0_init : ByteArray := prog_2_method_1_code
def yX0_init : MethodName := ⟨RX0, "<init>", "()V"⟩
abbrev cX0_copyFrom : ByteArray := prog_2_method_2_code
def yX0_copyFrom : MethodName := ⟨RX0, "copyFrom", "(LDriftGrinders$Burr;)V"⟩
abbrev cX0_gap : ByteArray := prog_2_method_3_code
def yX0_gap : MethodName := ⟨RX0, "gap", "()I"⟩
abbrev cX0_gapAt : ByteArray := prog_2_method_4_code
def yX0_gapAt : MethodName := ⟨RX0, "gapAt", "(I)I"⟩
abbrev cX0_warmByGrinding : ByteArray := prog_2_method_5_code
def yX0_warmByGrinding : MethodName := ⟨RX0, "warmByGrinding", "(I)V"⟩
abbrev cX0_cool : ByteArray := prog_2_method_6_code
def yX0_cool : MethodName := ⟨RX0, "cool", "(I)V"⟩
abbrev cX0_coolingsTo : ByteArray := prog_2_method_7_code
def yX0_coolingsTo : MethodName := ⟨RX0, "coolingsTo", "(I)I"⟩
abbrev cX0_correctBy : ByteArray := prog_2_method_8_code
def yX0_correctBy : MethodName := ⟨RX0, "correctBy", "(II)V"⟩
abbrev cX0_tell : ByteArray := prog_2_method_9_code
def yX0_tell : MethodName := ⟨RX0, "tell", "(I)I"⟩
def RX1 : String := "DriftGrinders$Grinder"
def TX1 : u_T := fun k => match k with
  | 0 => ("DriftGrinders$Grinder", "hopper", "LDriftGrinders$Hopper;", true)
  | 1 => ("DriftGrinders$Grinder", "burr0", "LDriftGrinders$Burr;", true)
  | 2 => ("DriftGrinders$Grinder", "burr1", "LDriftGrinders$Burr;", true)
  | 3 => ("DriftGrinders$Grinder", "chute", "LDriftGrinders$Row;", true)
  | 4 => ("DriftGrinders$Grinder", "basket", "LDriftGrinders$Row;", true)
  | 5 => ("DriftGrinders$Grinder", "shots", "LDriftGrinders$Shots;", true)
  | 6 => ("DriftGrinders$Grinder", "settings", "[I", true)
  | 7 => ("DriftGrinders$Grinder", "second", "I", false)
  | 8 => ("DriftGrinders$Grinder", "filled", "I", false)
  | 9 => ("DriftGrinders$Grinder", "ground", "I", false)
  | 10 => ("DriftGrinders$Grinder", "brewed", "I", false)
  | 11 => ("DriftGrinders$Grinder", "purged", "I", false)
  | _ => ("DriftGrinders$Grinder", "shotsNearTarget", "I", false)
def tyX1 : Nat → FieldType := fun k => match k with
  | 0 => .object "DriftGrinders$Hopper"
  | 1 => .object "DriftGrinders$Burr"
  | 2 => .object "DriftGrinders$Burr"
  | 3 => .object "DriftGrinders$Row"
  | 4 => .object "DriftGrinders$Row"
  | 5 => .object "DriftGrinders$Shots"
  | 6 => .array .int
  | 7 => .int
  | 8 => .int
  | 9 => .int
  | 10 => .int
  | 11 => .int
  | _ => .int
abbrev wsX10 : List Cond := u_ws RX1 TX1 13
theorem nmX1 : ∀ a, a < 13 → ∀ b, b < 13 → a ≠ b → (TX1 a).2.1 ≠ (TX1 b).2.1 := by decide +kernel
theorem tyX1_ok : ∀ k, k < 13 → parseFieldDescriptor (TX1 k).2.2.1 = some (tyX1 k) := by decide +kernel
abbrev cX1_init : ByteArray := prog_3_method_1_code
def yX1_init : MethodName := ⟨RX1, "<init>", "()V"⟩
abbrev cX1_copyFrom : ByteArray := prog_3_method_2_code
def yX1_copyFrom : MethodName := ⟨RX1, "copyFrom", "(LDriftGrinders$Grinder;)V"⟩
abbrev cX1_burrNumbered : ByteArray := prog_3_method_3_code
def yX1_burrNumbered : MethodName := ⟨RX1, "burrNumbered", "(I)LDriftGrinders$Burr;"⟩
abbrev cX1_fillIn : ByteArray := prog_3_method_4_code
def yX1_fillIn : MethodName := ⟨RX1, "fillIn", "(II)I"⟩
abbrev cX1_grindBy : ByteArray := prog_3_method_5_code
def yX1_grindBy : MethodName := ⟨RX1, "grindBy", "(II)I"⟩
abbrev cX1_turnDial : ByteArray := prog_3_method_6_code
def yX1_turnDial : MethodName := ⟨RX1, "turnDial", "(II)I"⟩
abbrev cX1_letPass : ByteArray := prog_3_method_7_code
def yX1_letPass : MethodName := ⟨RX1, "letPass", "(I)I"⟩
abbrev cX1_passSeconds : ByteArray := prog_3_method_8_code
def yX1_passSeconds : MethodName := ⟨RX1, "passSeconds", "(I)V"⟩
abbrev cX1_makeShot : ByteArray := prog_3_method_9_code
def yX1_makeShot : MethodName := ⟨RX1, "makeShot", "()I"⟩
abbrev cX1_judge : ByteArray := prog_3_method_10_code
def yX1_judge : MethodName := ⟨RX1, "judge", "(ILDriftGrinders$Burr;)V"⟩
abbrev cX1_timeOfBasket : ByteArray := prog_3_method_11_code
def yX1_timeOfBasket : MethodName := ⟨RX1, "timeOfBasket", "()I"⟩
abbrev cX1_flowOfMark : ByteArray := prog_3_method_12_code
def yX1_flowOfMark : MethodName := ⟨RX1, "flowOfMark", "(I)I"⟩
abbrev cX1_hardnessOf : ByteArray := prog_3_method_13_code
def yX1_hardnessOf : MethodName := ⟨RX1, "hardnessOf", "(I)I"⟩
abbrev cX1_emptyChute : ByteArray := prog_3_method_14_code
def yX1_emptyChute : MethodName := ⟨RX1, "emptyChute", "()I"⟩
abbrev cX1_correctByLatest : ByteArray := prog_3_method_15_code
def yX1_correctByLatest : MethodName := ⟨RX1, "correctByLatest", "(I)I"⟩
abbrev cX1_changeSetting : ByteArray := prog_3_method_16_code
def yX1_changeSetting : MethodName := ⟨RX1, "changeSetting", "(II)I"⟩
abbrev cX1_tellPortion : ByteArray := prog_3_method_17_code
def yX1_tellPortion : MethodName := ⟨RX1, "tellPortion", "(LDriftGrinders$Row;II)I"⟩
abbrev cX1_nearestDial : ByteArray := prog_3_method_18_code
def yX1_nearestDial : MethodName := ⟨RX1, "nearestDial", "(LDriftGrinders$Burr;I)I"⟩
abbrev cX1_awayAtDial : ByteArray := prog_3_method_19_code
def yX1_awayAtDial : MethodName := ⟨RX1, "awayAtDial", "(ILDriftGrinders$Burr;I)I"⟩
abbrev cX1_staleFor : ByteArray := prog_3_method_20_code
def yX1_staleFor : MethodName := ⟨RX1, "staleFor", "(I)I"⟩
abbrev cX1_secondsToCool : ByteArray := prog_3_method_21_code
def yX1_secondsToCool : MethodName := ⟨RX1, "secondsToCool", "(LDriftGrinders$Burr;I)I"⟩
abbrev cX1_tell : ByteArray := prog_3_method_22_code
def yX1_tell : MethodName := ⟨RX1, "tell", "(I)I"⟩
abbrev cX1_tellSetting : ByteArray := prog_3_method_23_code
def yX1_tellSetting : MethodName := ⟨RX1, "tellSetting", "(I)I"⟩
def RX2 : String := "DriftGrinders$History"
def TX2 : u_T := fun k => match k with
  | 0 => ("DriftGrinders$History", "latest", "LDriftGrinders$Grinder;", false)
  | 1 => ("DriftGrinders$History", "second", "LDriftGrinders$Grinder;", false)
  | 2 => ("DriftGrinders$History", "third", "LDriftGrinders$Grinder;", false)
  | 3 => ("DriftGrinders$History", "oldest", "LDriftGrinders$Grinder;", false)
  | _ => ("DriftGrinders$History", "states", "I", false)
def tyX2 : Nat → FieldType := fun k => match k with
  | 0 => .object "DriftGrinders$Grinder"
  | 1 => .object "DriftGrinders$Grinder"
  | 2 => .object "DriftGrinders$Grinder"
  | 3 => .object "DriftGrinders$Grinder"
  | _ => .int
abbrev wsX20 : List Cond := u_ws RX2 TX2 5
theorem nmX2 : ∀ a, a < 5 → ∀ b, b < 5 → a ≠ b → (TX2 a).2.1 ≠ (TX2 b).2.1 := by decide +kernel
theorem tyX2_ok : ∀ k, k < 5 → parseFieldDescriptor (TX2 k).2.2.1 = some (tyX2 k) := by decide +kernel
abbrev cX2_init : ByteArray := prog_4_method_1_code
def yX2_init : MethodName := ⟨RX2, "<init>", "()V"⟩
abbrev cX2_add : ByteArray := prog_4_method_2_code
def yX2_add : MethodName := ⟨RX2, "add", "(LDriftGrinders$Grinder;)LDriftGrinders$Grinder;"⟩
abbrev cX2_takeLatest : ByteArray := prog_4_method_3_code
def yX2_takeLatest : MethodName := ⟨RX2, "takeLatest", "(LDriftGrinders$Grinder;)LDriftGrinders$Grinder;"⟩
def RX3 : String := "DriftGrinders$Hopper"
def TX3 : u_T := fun k => match k with
  | _ => ("DriftGrinders$Hopper", "lots", "LDriftGrinders$Row;", true)
def tyX3 : Nat → FieldType := fun k => match k with
  | _ => .object "DriftGrinders$Row"
abbrev wsX30 : List Cond := u_ws RX3 TX3 1
theorem nmX3 : ∀ a, a < 1 → ∀ b, b < 1 → a ≠ b → (TX3 a).2.1 ≠ (TX3 b).2.1 := by decide +kernel
theorem tyX3_ok : ∀ k, k < 1 → parseFieldDescriptor (TX3 k).2.2.1 = some (tyX3 k) := by decide +kernel
abbrev cX3_init : ByteArray := prog_5_method_1_code
def yX3_init : MethodName := ⟨RX3, "<init>", "()V"⟩
abbrev cX3_copyFrom : ByteArray := prog_5_method_2_code
def yX3_copyFrom : MethodName := ⟨RX3, "copyFrom", "(LDriftGrinders$Hopper;)V"⟩
abbrev cX3_amount : ByteArray := prog_5_method_3_code
def yX3_amount : MethodName := ⟨RX3, "amount", "()I"⟩
abbrev cX3_isEmpty : ByteArray := prog_5_method_4_code
def yX3_isEmpty : MethodName := ⟨RX3, "isEmpty", "()Z"⟩
abbrev cX3_hasRoomFor : ByteArray := prog_5_method_5_code
def yX3_hasRoomFor : MethodName := ⟨RX3, "hasRoomFor", "(II)Z"⟩
abbrev cX3_endsWith : ByteArray := prog_5_method_6_code
def yX3_endsWith : MethodName := ⟨RX3, "endsWith", "(I)Z"⟩
abbrev cX3_pourIn : ByteArray := prog_5_method_7_code
def yX3_pourIn : MethodName := ⟨RX3, "pourIn", "(II)V"⟩
abbrev cX3_letOut : ByteArray := prog_5_method_8_code
def yX3_letOut : MethodName := ⟨RX3, "letOut", "(IIILDriftGrinders$Row;)V"⟩
abbrev cX3_firstKind : ByteArray := prog_5_method_9_code
def yX3_firstKind : MethodName := ⟨RX3, "firstKind", "()I"⟩
abbrev cX3_tell : ByteArray := prog_5_method_10_code
def yX3_tell : MethodName := ⟨RX3, "tell", "(II)I"⟩
def RX4 : String := "DriftGrinders$Orders"
def TX4 : u_T := fun k => match k with
  | 0 => ("DriftGrinders$Orders", "signs", "[C", true)
  | 1 => ("DriftGrinders$Orders", "length", "I", false)
  | 2 => ("DriftGrinders$Orders", "at", "I", false)
  | 3 => ("DriftGrinders$Orders", "letter", "C", false)
  | 4 => ("DriftGrinders$Orders", "firstNumber", "I", false)
  | 5 => ("DriftGrinders$Orders", "secondNumber", "I", false)
  | 6 => ("DriftGrinders$Orders", "ordersDone", "I", false)
  | 7 => ("DriftGrinders$Orders", "faultPosition", "I", false)
  | 8 => ("DriftGrinders$Orders", "faultReason", "I", false)
  | _ => ("DriftGrinders$Orders", "faultCause", "I", false)
def tyX4 : Nat → FieldType := fun k => match k with
  | 0 => .array .char
  | 1 => .int
  | 2 => .int
  | 3 => .char
  | 4 => .int
  | 5 => .int
  | 6 => .int
  | 7 => .int
  | 8 => .int
  | _ => .int
abbrev wsX40 : List Cond := u_ws RX4 TX4 10
theorem nmX4 : ∀ a, a < 10 → ∀ b, b < 10 → a ≠ b → (TX4 a).2.1 ≠ (TX4 b).2.1 := by decide +kernel
theorem tyX4_ok : ∀ k, k < 10 → parseFieldDescriptor (TX4 k).2.2.1 = some (tyX4 k) := by decide +kernel
abbrev cX4_init : ByteArray := prog_6_method_1_code
def yX4_init : MethodName := ⟨RX4, "<init>", "()V"⟩
abbrev cX4_append : ByteArray := prog_6_method_2_code
def yX4_append : MethodName := ⟨RX4, "append", "(C)I"⟩
abbrev cX4_hasFault : ByteArray := prog_6_method_3_code
def yX4_hasFault : MethodName := ⟨RX4, "hasFault", "()Z"⟩
abbrev cX4_tellFault : ByteArray := prog_6_method_4_code
def yX4_tellFault : MethodName := ⟨RX4, "tellFault", "(I)I"⟩
abbrev cX4_doAllOn : ByteArray := prog_6_method_5_code
def yX4_doAllOn : MethodName := ⟨RX4, "doAllOn", "(LDriftGrinders$Grinder;)V"⟩
abbrev cX4_blame : ByteArray := prog_6_method_6_code
def yX4_blame : MethodName := ⟨RX4, "blame", "(III)V"⟩
abbrev cX4_readOrder : ByteArray := prog_6_method_7_code
def yX4_readOrder : MethodName := ⟨RX4, "readOrder", "()Z"⟩
abbrev cX4_readFirstNumber : ByteArray := prog_6_method_8_code
def yX4_readFirstNumber : MethodName := ⟨RX4, "readFirstNumber", "()Z"⟩
abbrev cX4_readSecondNumber : ByteArray := prog_6_method_9_code
def yX4_readSecondNumber : MethodName := ⟨RX4, "readSecondNumber", "()Z"⟩
abbrev cX4_readNumber : ByteArray := prog_6_method_10_code
def yX4_readNumber : MethodName := ⟨RX4, "readNumber", "()I"⟩
abbrev cX4_passSign : ByteArray := prog_6_method_11_code
def yX4_passSign : MethodName := ⟨RX4, "passSign", "(C)Z"⟩
abbrev cX4_signHere : ByteArray := prog_6_method_12_code
def yX4_signHere : MethodName := ⟨RX4, "signHere", "()C"⟩
abbrev cX4_isDigit : ByteArray := prog_6_method_13_code
def yX4_isDigit : MethodName := ⟨RX4, "isDigit", "(C)Z"⟩
abbrev cX4_doOrderOn : ByteArray := prog_6_method_14_code
def yX4_doOrderOn : MethodName := ⟨RX4, "doOrderOn", "(LDriftGrinders$Grinder;)I"⟩
def RX5 : String := "DriftGrinders$Row"
def TX5 : u_T := fun k => match k with
  | 0 => ("DriftGrinders$Row", "amounts", "[I", true)
  | 1 => ("DriftGrinders$Row", "marks", "[I", true)
  | 2 => ("DriftGrinders$Row", "length", "I", false)
  | _ => ("DriftGrinders$Row", "total", "I", false)
def tyX5 : Nat → FieldType := fun k => match k with
  | 0 => .array .int
  | 1 => .array .int
  | 2 => .int
  | _ => .int
abbrev wsX50 : List Cond := u_ws RX5 TX5 4
theorem nmX5 : ∀ a, a < 4 → ∀ b, b < 4 → a ≠ b → (TX5 a).2.1 ≠ (TX5 b).2.1 := by decide +kernel
theorem tyX5_ok : ∀ k, k < 4 → parseFieldDescriptor (TX5 k).2.2.1 = some (tyX5 k) := by decide +kernel
abbrev cX5_init : ByteArray := prog_7_method_1_code
def yX5_init : MethodName := ⟨RX5, "<init>", "(I)V"⟩
abbrev cX5_copyFrom : ByteArray := prog_7_method_2_code
def yX5_copyFrom : MethodName := ⟨RX5, "copyFrom", "(LDriftGrinders$Row;)V"⟩
abbrev cX5_clear : ByteArray := prog_7_method_3_code
def yX5_clear : MethodName := ⟨RX5, "clear", "()V"⟩
abbrev cX5_append : ByteArray := prog_7_method_4_code
def yX5_append : MethodName := ⟨RX5, "append", "(II)V"⟩
abbrev cX5_addToLast : ByteArray := prog_7_method_5_code
def yX5_addToLast : MethodName := ⟨RX5, "addToLast", "(I)V"⟩
abbrev cX5_letOut : ByteArray := prog_7_method_6_code
def yX5_letOut : MethodName := ⟨RX5, "letOut", "(IILDriftGrinders$Row;)V"⟩
abbrev cX5_dropFirst : ByteArray := prog_7_method_7_code
def yX5_dropFirst : MethodName := ⟨RX5, "dropFirst", "(I)V"⟩
abbrev cX5_amountAt : ByteArray := prog_7_method_8_code
def yX5_amountAt : MethodName := ⟨RX5, "amountAt", "(I)I"⟩
abbrev cX5_markAt : ByteArray := prog_7_method_9_code
def yX5_markAt : MethodName := ⟨RX5, "markAt", "(I)I"⟩
abbrev cX5_isMostly : ByteArray := prog_7_method_10_code
def yX5_isMostly : MethodName := ⟨RX5, "isMostly", "(I)Z"⟩
abbrev cX5_amountUpToLastUnlike : ByteArray := prog_7_method_11_code
def yX5_amountUpToLastUnlike : MethodName := ⟨RX5, "amountUpToLastUnlike", "(I)I"⟩
def RX6 : String := "DriftGrinders$Shots"
def TX6 : u_T := fun k => match k with
  | 0 => ("DriftGrinders$Shots", "facts", "[I", true)
  | 1 => ("DriftGrinders$Shots", "kept", "I", false)
  | _ => ("DriftGrinders$Shots", "made", "I", false)
def tyX6 : Nat → FieldType := fun k => match k with
  | 0 => .array .int
  | 1 => .int
  | _ => .int
abbrev wsX60 : List Cond := u_ws RX6 TX6 3
theorem nmX6 : ∀ a, a < 3 → ∀ b, b < 3 → a ≠ b → (TX6 a).2.1 ≠ (TX6 b).2.1 := by decide +kernel
theorem tyX6_ok : ∀ k, k < 3 → parseFieldDescriptor (TX6 k).2.2.1 = some (tyX6 k) := by decide +kernel
abbrev cX6_init : ByteArray := prog_8_method_1_code
def yX6_init : MethodName := ⟨RX6, "<init>", "()V"⟩
abbrev cX6_copyFrom : ByteArray := prog_8_method_2_code
def yX6_copyFrom : MethodName := ⟨RX6, "copyFrom", "(LDriftGrinders$Shots;)V"⟩
abbrev cX6_add : ByteArray := prog_8_method_3_code
def yX6_add : MethodName := ⟨RX6, "add", "(IIIIII)V"⟩
abbrev cX6_latestTime : ByteArray := prog_8_method_4_code
def yX6_latestTime : MethodName := ⟨RX6, "latestTime", "()I"⟩
abbrev cX6_tell : ByteArray := prog_8_method_5_code
def yX6_tell : MethodName := ⟨RX6, "tell", "(III)I"⟩
abbrev cX6_awayFrom : ByteArray := prog_8_method_6_code
def yX6_awayFrom : MethodName := ⟨RX6, "awayFrom", "(II)I"⟩
abbrev cX6_numberAtPlace : ByteArray := prog_8_method_7_code
def yX6_numberAtPlace : MethodName := ⟨RX6, "numberAtPlace", "(II)I"⟩
abbrev cX6_placeOf : ByteArray := prog_8_method_8_code
def yX6_placeOf : MethodName := ⟨RX6, "placeOf", "(II)I"⟩
def RX7 : String := "DriftGrinders"
def TX7 : u_T := fun k => match k with
  | 0 => ("DriftGrinders", "history", "LDriftGrinders$History;", true)
  | 1 => ("DriftGrinders", "text", "LDriftGrinders$Orders;", true)
  | 2 => ("DriftGrinders", "now", "LDriftGrinders$Grinder;", false)
  | _ => ("DriftGrinders", "spare", "LDriftGrinders$Grinder;", false)
def tyX7 : Nat → FieldType := fun k => match k with
  | 0 => .object "DriftGrinders$History"
  | 1 => .object "DriftGrinders$Orders"
  | 2 => .object "DriftGrinders$Grinder"
  | _ => .object "DriftGrinders$Grinder"
abbrev wsX70 : List Cond := u_ws RX7 TX7 4
theorem nmX7 : ∀ a, a < 4 → ∀ b, b < 4 → a ≠ b → (TX7 a).2.1 ≠ (TX7 b).2.1 := by decide +kernel
theorem tyX7_ok : ∀ k, k < 4 → parseFieldDescriptor (TX7 k).2.2.1 = some (tyX7 k) := by decide +kernel
abbrev cX7_init : ByteArray := prog_1_method_1_code
def yX7_init : MethodName := ⟨RX7, "<init>", "()V"⟩
abbrev cX7_fill : ByteArray := prog_1_method_2_code
def yX7_fill : MethodName := ⟨RX7, "fill", "(II)I"⟩
abbrev cX7_grind : ByteArray := prog_1_method_3_code
def yX7_grind : MethodName := ⟨RX7, "grind", "(II)I"⟩
abbrev cX7_dial : ByteArray := prog_1_method_4_code
def yX7_dial : MethodName := ⟨RX7, "dial", "(II)I"⟩
abbrev cX7_rest : ByteArray := prog_1_method_5_code
def yX7_rest : MethodName := ⟨RX7, "rest", "(I)I"⟩
abbrev cX7_shot : ByteArray := prog_1_method_6_code
def yX7_shot : MethodName := ⟨RX7, "shot", "()I"⟩
abbrev cX7_purge : ByteArray := prog_1_method_7_code
def yX7_purge : MethodName := ⟨RX7, "purge", "()I"⟩
abbrev cX7_correct : ByteArray := prog_1_method_8_code
def yX7_correct : MethodName := ⟨RX7, "correct", "(I)I"⟩
abbrev cX7_set : ByteArray := prog_1_method_9_code
def yX7_set : MethodName := ⟨RX7, "set", "(II)I"⟩
abbrev cX7_burrOf : ByteArray := prog_1_method_10_code
def yX7_burrOf : MethodName := ⟨RX7, "burrOf", "(II)I"⟩
abbrev cX7_lotOf : ByteArray := prog_1_method_11_code
def yX7_lotOf : MethodName := ⟨RX7, "lotOf", "(II)I"⟩
abbrev cX7_portionOf : ByteArray := prog_1_method_12_code
def yX7_portionOf : MethodName := ⟨RX7, "portionOf", "(III)I"⟩
abbrev cX7_shotOf : ByteArray := prog_1_method_13_code
def yX7_shotOf : MethodName := ⟨RX7, "shotOf", "(II)I"⟩
abbrev cX7_best : ByteArray := prog_1_method_14_code
def yX7_best : MethodName := ⟨RX7, "best", "(I)I"⟩
abbrev cX7_wouldTake : ByteArray := prog_1_method_15_code
def yX7_wouldTake : MethodName := ⟨RX7, "wouldTake", "(II)I"⟩
abbrev cX7_dialFor : ByteArray := prog_1_method_16_code
def yX7_dialFor : MethodName := ⟨RX7, "dialFor", "(II)I"⟩
abbrev cX7_stale : ByteArray := prog_1_method_17_code
def yX7_stale : MethodName := ⟨RX7, "stale", "(I)I"⟩
abbrev cX7_coolAfter : ByteArray := prog_1_method_18_code
def yX7_coolAfter : MethodName := ⟨RX7, "coolAfter", "(II)I"⟩
abbrev cX7_count : ByteArray := prog_1_method_19_code
def yX7_count : MethodName := ⟨RX7, "count", "(I)I"⟩
abbrev cX7_undo : ByteArray := prog_1_method_20_code
def yX7_undo : MethodName := ⟨RX7, "undo", "()I"⟩
abbrev cX7_type : ByteArray := prog_1_method_21_code
def yX7_type : MethodName := ⟨RX7, "type", "(I)I"⟩
abbrev cX7_clearText : ByteArray := prog_1_method_22_code
def yX7_clearText : MethodName := ⟨RX7, "clearText", "()I"⟩
abbrev cX7_fault : ByteArray := prog_1_method_23_code
def yX7_fault : MethodName := ⟨RX7, "fault", "(I)I"⟩
abbrev cX7_play : ByteArray := prog_1_method_24_code
def yX7_play : MethodName := ⟨RX7, "play", "()I"⟩
abbrev cX7_spareLikeNow : ByteArray := prog_1_method_25_code
def yX7_spareLikeNow : MethodName := ⟨RX7, "spareLikeNow", "()LDriftGrinders$Grinder;"⟩
abbrev cX7_keepIfDone : ByteArray := prog_1_method_26_code
def yX7_keepIfDone : MethodName := ⟨RX7, "keepIfDone", "(I)I"⟩
abbrev cX7_isZeroOrOne : ByteArray := prog_1_method_27_code
def yX7_isZeroOrOne : MethodName := ⟨RX7, "isZeroOrOne", "(I)Z"⟩
abbrev cX7_fallOf : ByteArray := prog_1_method_28_code
def yX7_fallOf : MethodName := ⟨RX7, "fallOf", "(I)I"⟩
abbrev cX7_flowOf : ByteArray := prog_1_method_29_code
def yX7_flowOf : MethodName := ⟨RX7, "flowOf", "(II)I"⟩
abbrev cX7_markOf : ByteArray := prog_1_method_30_code
def yX7_markOf : MethodName := ⟨RX7, "markOf", "(III)I"⟩
abbrev cX7_kindOfMark : ByteArray := prog_1_method_31_code
def yX7_kindOfMark : MethodName := ⟨RX7, "kindOfMark", "(I)I"⟩
abbrev cX7_burrOfMark : ByteArray := prog_1_method_32_code
def yX7_burrOfMark : MethodName := ⟨RX7, "burrOfMark", "(I)I"⟩
abbrev cX7_gapOfMark : ByteArray := prog_1_method_33_code
def yX7_gapOfMark : MethodName := ⟨RX7, "gapOfMark", "(I)I"⟩
def RX8 : String := "DriftGrindersModel"
def TX8 : u_T := fun k => match k with
  | 0 => ("DriftGrindersModel", "s", "[I", true)
  | 1 => ("DriftGrindersModel", "past", "[I", true)
  | 2 => ("DriftGrindersModel", "held", "[I", true)
  | 3 => ("DriftGrindersModel", "tried", "[I", true)
  | 4 => ("DriftGrindersModel", "pasts", "I", false)
  | 5 => ("DriftGrindersModel", "runs", "Z", false)
  | 6 => ("DriftGrindersModel", "text", "[I", true)
  | 7 => ("DriftGrindersModel", "typed", "I", false)
  | 8 => ("DriftGrindersModel", "spot", "I", false)
  | 9 => ("DriftGrindersModel", "from", "I", false)
  | 10 => ("DriftGrindersModel", "reason", "I", false)
  | 11 => ("DriftGrindersModel", "cause", "I", false)
  | 12 => ("DriftGrindersModel", "orders", "I", false)
  | 13 => ("DriftGrindersModel", "order", "I", false)
  | _ => ("DriftGrindersModel", "told", "[I", true)
def tyX8 : Nat → FieldType := fun k => match k with
  | 0 => .array .int
  | 1 => .array .int
  | 2 => .array .int
  | 3 => .array .int
  | 4 => .int
  | 5 => .boolean
  | 6 => .array .int
  | 7 => .int
  | 8 => .int
  | 9 => .int
  | 10 => .int
  | 11 => .int
  | 12 => .int
  | 13 => .int
  | _ => .array .int
abbrev wsX80 : List Cond := u_ws RX8 TX8 15
theorem nmX8 : ∀ a, a < 15 → ∀ b, b < 15 → a ≠ b → (TX8 a).2.1 ≠ (TX8 b).2.1 := by decide +kernel
theorem tyX8_ok : ∀ k, k < 15 → parseFieldDescriptor (TX8 k).2.2.1 = some (tyX8 k) := by decide +kernel
abbrev cX8_init : ByteArray := prog_10_method_1_code
def yX8_init : MethodName := ⟨RX8, "<init>", "()V"⟩
abbrev cX8_in : ByteArray := prog_10_method_3_code
def yX8_in : MethodName := ⟨RX8, "in", "(III)Z"⟩
abbrev cX8_isOne : ByteArray := prog_10_method_4_code
def yX8_isOne : MethodName := ⟨RX8, "isOne", "(I)Z"⟩
abbrev cX8_copies : ByteArray := prog_10_method_5_code
def yX8_copies : MethodName := ⟨RX8, "copies", "([I[I)V"⟩
abbrev cX8_changes : ByteArray := prog_10_method_6_code
def yX8_changes : MethodName := ⟨RX8, "changes", "()V"⟩
abbrev cX8_amountOf : ByteArray := prog_10_method_7_code
def yX8_amountOf : MethodName := ⟨RX8, "amountOf", "(I)I"⟩
abbrev cX8_kindOf : ByteArray := prog_10_method_8_code
def yX8_kindOf : MethodName := ⟨RX8, "kindOf", "(I)I"⟩
abbrev cX8_burrIn : ByteArray := prog_10_method_9_code
def yX8_burrIn : MethodName := ⟨RX8, "burrIn", "(I)I"⟩
abbrev cX8_gapOf : ByteArray := prog_10_method_10_code
def yX8_gapOf : MethodName := ⟨RX8, "gapOf", "(I)I"⟩
abbrev cX8_flowOf : ByteArray := prog_10_method_11_code
def yX8_flowOf : MethodName := ⟨RX8, "flowOf", "(I)I"⟩
abbrev cX8_amounts : ByteArray := prog_10_method_12_code
def yX8_amounts : MethodName := ⟨RX8, "amounts", "(II)I"⟩
abbrev cX8_hopper : ByteArray := prog_10_method_13_code
def yX8_hopper : MethodName := ⟨RX8, "hopper", "()I"⟩
abbrev cX8_ofBurr : ByteArray := prog_10_method_14_code
def yX8_ofBurr : MethodName := ⟨RX8, "ofBurr", "(II)I"⟩
abbrev cX8_gapBy : ByteArray := prog_10_method_15_code
def yX8_gapBy : MethodName := ⟨RX8, "gapBy", "(II)I"⟩
abbrev cX8_gap : ByteArray := prog_10_method_16_code
def yX8_gap : MethodName := ⟨RX8, "gap", "(I)I"⟩
abbrev cX8_fall : ByteArray := prog_10_method_17_code
def yX8_fall : MethodName := ⟨RX8, "fall", "(I)I"⟩
abbrev cX8_passes : ByteArray := prog_10_method_18_code
def yX8_passes : MethodName := ⟨RX8, "passes", "(I)I"⟩
abbrev cX8_fill : ByteArray := prog_10_method_19_code
def yX8_fill : MethodName := ⟨RX8, "fill", "(II)I"⟩
abbrev cX8_comes : ByteArray := prog_10_method_20_code
def yX8_comes : MethodName := ⟨RX8, "comes", "(II)V"⟩
abbrev cX8_overflows : ByteArray := prog_10_method_21_code
def yX8_overflows : MethodName := ⟨RX8, "overflows", "()V"⟩
abbrev cX8_couldGrind : ByteArray := prog_10_method_22_code
def yX8_couldGrind : MethodName := ⟨RX8, "couldGrind", "(II)I"⟩
abbrev cX8_grinds : ByteArray := prog_10_method_23_code
def yX8_grinds : MethodName := ⟨RX8, "grinds", "(II)V"⟩
abbrev cX8_grind : ByteArray := prog_10_method_24_code
def yX8_grind : MethodName := ⟨RX8, "grind", "(II)I"⟩
abbrev cX8_dial : ByteArray := prog_10_method_25_code
def yX8_dial : MethodName := ⟨RX8, "dial", "(II)I"⟩
abbrev cX8_rest : ByteArray := prog_10_method_26_code
def yX8_rest : MethodName := ⟨RX8, "rest", "(I)I"⟩
abbrev cX8_timeNow : ByteArray := prog_10_method_27_code
def yX8_timeNow : MethodName := ⟨RX8, "timeNow", "()I"⟩
abbrev cX8_corrects : ByteArray := prog_10_method_28_code
def yX8_corrects : MethodName := ⟨RX8, "corrects", "(II)V"⟩
abbrev cX8_away : ByteArray := prog_10_method_29_code
def yX8_away : MethodName := ⟨RX8, "away", "(I)I"⟩
abbrev cX8_shot : ByteArray := prog_10_method_30_code
def yX8_shot : MethodName := ⟨RX8, "shot", "()I"⟩
abbrev cX8_purge : ByteArray := prog_10_method_31_code
def yX8_purge : MethodName := ⟨RX8, "purge", "()I"⟩
abbrev cX8_correct : ByteArray := prog_10_method_32_code
def yX8_correct : MethodName := ⟨RX8, "correct", "(I)I"⟩
abbrev cX8_leastOf : ByteArray := prog_10_method_33_code
def yX8_leastOf : MethodName := ⟨RX8, "leastOf", "(I)I"⟩
abbrev cX8_mostOf : ByteArray := prog_10_method_34_code
def yX8_mostOf : MethodName := ⟨RX8, "mostOf", "(I)I"⟩
abbrev cX8_set : ByteArray := prog_10_method_35_code
def yX8_set : MethodName := ⟨RX8, "set", "(II)I"⟩
abbrev cX8_burrOf : ByteArray := prog_10_method_36_code
def yX8_burrOf : MethodName := ⟨RX8, "burrOf", "(II)I"⟩
abbrev cX8_lotOf : ByteArray := prog_10_method_37_code
def yX8_lotOf : MethodName := ⟨RX8, "lotOf", "(II)I"⟩
abbrev cX8_portionOf : ByteArray := prog_10_method_38_code
def yX8_portionOf : MethodName := ⟨RX8, "portionOf", "(III)I"⟩
abbrev cX8_shotOf : ByteArray := prog_10_method_39_code
def yX8_shotOf : MethodName := ⟨RX8, "shotOf", "(II)I"⟩
abbrev cX8_best : ByteArray := prog_10_method_40_code
def yX8_best : MethodName := ⟨RX8, "best", "(I)I"⟩
abbrev cX8_wouldTake : ByteArray := prog_10_method_41_code
def yX8_wouldTake : MethodName := ⟨RX8, "wouldTake", "(II)I"⟩
abbrev cX8_dialFor : ByteArray := prog_10_method_42_code
def yX8_dialFor : MethodName := ⟨RX8, "dialFor", "(II)I"⟩
abbrev cX8_stale : ByteArray := prog_10_method_43_code
def yX8_stale : MethodName := ⟨RX8, "stale", "(I)I"⟩
abbrev cX8_coolAfter : ByteArray := prog_10_method_44_code
def yX8_coolAfter : MethodName := ⟨RX8, "coolAfter", "(II)I"⟩
abbrev cX8_count : ByteArray := prog_10_method_45_code
def yX8_count : MethodName := ⟨RX8, "count", "(I)I"⟩
abbrev cX8_undo : ByteArray := prog_10_method_46_code
def yX8_undo : MethodName := ⟨RX8, "undo", "()I"⟩
abbrev cX8_type : ByteArray := prog_10_method_47_code
def yX8_type : MethodName := ⟨RX8, "type", "(I)I"⟩
abbrev cX8_clearText : ByteArray := prog_10_method_48_code
def yX8_clearText : MethodName := ⟨RX8, "clearText", "()I"⟩
abbrev cX8_isAt : ByteArray := prog_10_method_49_code
def yX8_isAt : MethodName := ⟨RX8, "isAt", "(II)Z"⟩
abbrev cX8_sign : ByteArray := prog_10_method_50_code
def yX8_sign : MethodName := ⟨RX8, "sign", "(I)Z"⟩
abbrev cX8_number : ByteArray := prog_10_method_51_code
def yX8_number : MethodName := ⟨RX8, "number", "(I)Z"⟩
abbrev cX8_reads : ByteArray := prog_10_method_52_code
def yX8_reads : MethodName := ⟨RX8, "reads", "()Z"⟩
abbrev cX8_calls : ByteArray := prog_10_method_53_code
def yX8_calls : MethodName := ⟨RX8, "calls", "()I"⟩
abbrev cX8_plays : ByteArray := prog_10_method_54_code
def yX8_plays : MethodName := ⟨RX8, "plays", "()Z"⟩
abbrev cX8_fault : ByteArray := prog_10_method_55_code
def yX8_fault : MethodName := ⟨RX8, "fault", "(I)I"⟩
abbrev cX8_play : ByteArray := prog_10_method_56_code
def yX8_play : MethodName := ⟨RX8, "play", "()I"⟩
def RJ9 : String := "java/lang/Math"
def TJ9 : u_T := fun k => match k with
  | _ => ("", "", "", false)
def tyJ9 : Nat → FieldType := fun k => match k with
  | _ => .int
abbrev wsJ90 : List Cond := u_ws RJ9 TJ9 0
theorem nmJ9 : ∀ a, a < 0 → ∀ b, b < 0 → a ≠ b → (TJ9 a).2.1 ≠ (TJ9 b).2.1 := by decide +kernel
theorem tyJ9_ok : ∀ k, k < 0 → parseFieldDescriptor (TJ9 k).2.2.1 = some (tyJ9 k) := by decide +kernel
abbrev cJ9_abs_0f7a4 : ByteArray := prog_11_method_59_code
def yJ9_abs_0f7a4 : MethodName := ⟨RJ9, "abs", "(I)I"⟩
abbrev cJ9_max_7cf53 : ByteArray := prog_11_method_65_code
def yJ9_max_7cf53 : MethodName := ⟨RJ9, "max", "(II)I"⟩
abbrev cJ9_min_7cf53 : ByteArray := prog_11_method_69_code
def yJ9_min_7cf53 : MethodName := ⟨RJ9, "min", "(II)I"⟩
def RJ10 : String := "java/lang/System"
def TJ10 : u_T := fun k => match k with
  | _ => ("", "", "", false)
def tyJ10 : Nat → FieldType := fun k => match k with
  | _ => .int
abbrev wsJ100 : List Cond := u_ws RJ10 TJ10 0
theorem nmJ10 : ∀ a, a < 0 → ∀ b, b < 0 → a ≠ b → (TJ10 a).2.1 ≠ (TJ10 b).2.1 := by decide +kernel
theorem tyJ10_ok : ∀ k, k < 0 → parseFieldDescriptor (TJ10 k).2.2.1 = some (tyJ10 k) := by decide +kernel
def RL : String := "DriftGrindersLaw"
abbrev cL_law : ByteArray := code
def yL_law : MethodName := ⟨RL, "law", "([I)Z"⟩
def wsX0_init : List Cond := .code yX0_init cX0_init 1 none :: ([.methodLink RX0 3 objectInit, .instanceMethod objectInit, .code objectInit ⟨#[0xb1]⟩ 1 none, .fieldLink RX0 9 "DriftGrinders$Burr" "dial" "I"] ++ wsX00)
def wsX0_copyFrom : List Cond := .code yX0_copyFrom cX0_copyFrom 2 none :: ([.fieldLink RX0 9 "DriftGrinders$Burr" "dial" "I", .fieldLink RX0 15 "DriftGrinders$Burr" "warmth" "I", .fieldLink RX0 18 "DriftGrinders$Burr" "ground" "I", .fieldLink RX0 21 "DriftGrinders$Burr" "corrections" "I"] ++ wsX00)
def wsX0_gapAt : List Cond := .code yX0_gapAt cX0_gapAt 2 (some .int) :: ([.fieldLink RX0 15 "DriftGrinders$Burr" "warmth" "I", .methodLink RX0 28 Lib.Math.max.name, .static Lib.Math.max.name, .initialized "java/lang/Math", .code Lib.Math.max.name Lib.Math.max.code 2 (some .int)] ++ wsX00)
def wsX0_gap : List Cond := .code yX0_gap cX0_gap 1 (some .int) :: ([.fieldLink RX0 9 "DriftGrinders$Burr" "dial" "I", .methodLink RX0 24 yX0_gapAt, .instanceMethod yX0_gapAt, .selects RX0 yX0_gapAt yX0_gapAt, .initialized RX0, .code yX0_gapAt cX0_gapAt 2 (some .int), .fieldLink RX0 15 "DriftGrinders$Burr" "warmth" "I", .methodLink RX0 28 Lib.Math.max.name, .static Lib.Math.max.name, .initialized "java/lang/Math", .code Lib.Math.max.name Lib.Math.max.code 2 (some .int)] ++ wsX00)
def wsX0_warmByGrinding : List Cond := .code yX0_warmByGrinding cX0_warmByGrinding 2 none :: ([.fieldLink RX0 15 "DriftGrinders$Burr" "warmth" "I", .methodLink RX0 34 Lib.Math.min.name, .static Lib.Math.min.name, .initialized "java/lang/Math", .code Lib.Math.min.name Lib.Math.min.code 2 (some .int), .fieldLink RX0 18 "DriftGrinders$Burr" "ground" "I"] ++ wsX00)
def wsX7_fallOf : List Cond := .code yX7_fallOf cX7_fallOf 1 (some .int) :: ([])
def wsX0_cool : List Cond := .code yX0_cool cX0_cool 3 none :: ([.fieldLink RX0 15 "DriftGrinders$Burr" "warmth" "I", .static yX7_fallOf, .initialized RX7, .code yX7_fallOf cX7_fallOf 1 (some .int)] ++ wsX00)
def wsX0_coolingsTo : List Cond := .code yX0_coolingsTo cX0_coolingsTo 4 (some .int) :: ([.fieldLink RX0 15 "DriftGrinders$Burr" "warmth" "I", .static yX7_fallOf, .initialized RX7, .code yX7_fallOf cX7_fallOf 1 (some .int)] ++ wsX00)
def wsX0_correctBy : List Cond := .code yX0_correctBy cX0_correctBy 4 none :: ([.fieldLink RX0 9 "DriftGrinders$Burr" "dial" "I", .methodLink RX0 28 Lib.Math.max.name, .static Lib.Math.max.name, .initialized "java/lang/Math", .code Lib.Math.max.name Lib.Math.max.code 2 (some .int), .methodLink RX0 34 Lib.Math.min.name, .static Lib.Math.min.name, .code Lib.Math.min.name Lib.Math.min.code 2 (some .int), .fieldLink RX0 21 "DriftGrinders$Burr" "corrections" "I"] ++ wsX00)
def wsX0_tell : List Cond := .code yX0_tell cX0_tell 2 (some .int) :: ([.fieldLink RX0 9 "DriftGrinders$Burr" "dial" "I", .fieldLink RX0 15 "DriftGrinders$Burr" "warmth" "I", .fieldLink RX0 18 "DriftGrinders$Burr" "ground" "I", .fieldLink RX0 21 "DriftGrinders$Burr" "corrections" "I", .methodLink RX0 40 yX0_gap, .instanceMethod yX0_gap, .selects RX0 yX0_gap yX0_gap, .initialized RX0, .code yX0_gap cX0_gap 1 (some .int), .methodLink RX0 24 yX0_gapAt, .instanceMethod yX0_gapAt, .selects RX0 yX0_gapAt yX0_gapAt, .code yX0_gapAt cX0_gapAt 2 (some .int), .methodLink RX0 28 Lib.Math.max.name, .static Lib.Math.max.name, .initialized "java/lang/Math", .code Lib.Math.max.name Lib.Math.max.code 2 (some .int)] ++ wsX00)
def wsX5_init : List Cond := .code yX5_init cX5_init 2 none :: ([.methodLink RX5 1 objectInit, .instanceMethod objectInit, .code objectInit ⟨#[0xb1]⟩ 1 none, .arrayClass .int, .fieldLink RX5 7 "DriftGrinders$Row" "amounts" "[I", .fieldLink RX5 13 "DriftGrinders$Row" "marks" "[I"] ++ wsX50)
def wsX3_init : List Cond := .code yX3_init cX3_init 1 none :: ([.methodLink RX3 3 objectInit, .instanceMethod objectInit, .code objectInit ⟨#[0xb1]⟩ 1 none, .classLink RX3 9 RX5, .instantiable RX5 4, .initialized RX5, .fieldLink RX3 14 "DriftGrinders$Hopper" "lots" "LDriftGrinders$Row;", .methodLink RX3 11 yX5_init, .instanceMethod yX5_init, .code yX5_init cX5_init 2 none, .methodLink RX5 1 objectInit, .arrayClass .int, .fieldLink RX5 7 "DriftGrinders$Row" "amounts" "[I", .fieldLink RX5 13 "DriftGrinders$Row" "marks" "[I"] ++ wsX50 ++ wsX30)
def wsX6_init : List Cond := .code yX6_init cX6_init 1 none :: ([.methodLink RX6 3 objectInit, .instanceMethod objectInit, .code objectInit ⟨#[0xb1]⟩ 1 none, .arrayClass .int, .fieldLink RX6 11 "DriftGrinders$Shots" "facts" "[I"] ++ wsX60)
def wsX1_init_r1 : List Cond := [Cond.methodLink RX1 3 objectInit, Cond.instanceMethod objectInit, Cond.code objectInit ⟨#[0xb1]⟩ 1 none, Cond.classLink RX1 9 RX3, Cond.instantiable RX3 1, Cond.initialized RX3, Cond.fieldLink RX1 12 "DriftGrinders$Grinder" "hopper" "LDriftGrinders$Hopper;", Cond.classLink RX1 18 RX0, Cond.instantiable RX0 4, Cond.initialized RX0, Cond.fieldLink RX1 21 "DriftGrinders$Grinder" "burr0" "LDriftGrinders$Burr;", Cond.fieldLink RX1 25 "DriftGrinders$Grinder" "burr1" "LDriftGrinders$Burr;", Cond.classLink RX1 28 RX5, Cond.instantiable RX5 4, Cond.initialized RX5, Cond.fieldLink RX1 33 "DriftGrinders$Grinder" "chute" "LDriftGrinders$Row;", Cond.fieldLink RX1 37 "DriftGrinders$Grinder" "basket" "LDriftGrinders$Row;", Cond.classLink RX1 40 RX6, Cond.instantiable RX6 3, Cond.initialized RX6, Cond.fieldLink RX1 43 "DriftGrinders$Grinder" "shots" "LDriftGrinders$Shots;", Cond.arrayClass .int, Cond.fieldLink RX1 47 "DriftGrinders$Grinder" "settings" "[I", Cond.instanceMethod yX3_init]
def wsX1_init_r2 : List Cond := [Cond.code yX3_init cX3_init 1 none, Cond.methodLink RX3 3 objectInit, Cond.classLink RX3 9 RX5, Cond.fieldLink RX3 14 "DriftGrinders$Hopper" "lots" "LDriftGrinders$Row;", Cond.methodLink RX3 11 yX5_init, Cond.instanceMethod yX5_init, Cond.code yX5_init cX5_init 2 none, Cond.methodLink RX5 1 objectInit, Cond.fieldLink RX5 7 "DriftGrinders$Row" "amounts" "[I", Cond.fieldLink RX5 13 "DriftGrinders$Row" "marks" "[I", Cond.instanceMethod yX0_init, Cond.code yX0_init cX0_init 1 none, Cond.methodLink RX0 3 objectInit, Cond.fieldLink RX0 9 "DriftGrinders$Burr" "dial" "I", Cond.methodLink RX1 30 yX5_init, Cond.instanceMethod yX6_init, Cond.code yX6_init cX6_init 1 none, Cond.methodLink RX6 3 objectInit, Cond.fieldLink RX6 11 "DriftGrinders$Shots" "facts" "[I"]
def wsX1_init : List Cond := .code yX1_init cX1_init 1 none :: ((wsX1_init_r1 ++ wsX1_init_r2) ++ wsX30 ++ wsX10 ++ wsX00 ++ wsX50 ++ wsX60)
def wsX5_copyFrom : List Cond := .code yX5_copyFrom cX5_copyFrom 2 none :: ([.fieldLink RX5 16 "DriftGrinders$Row" "length" "I", .fieldLink RX5 7 "DriftGrinders$Row" "amounts" "[I", .methodLink RX5 20 Lib.Math.min.name, .static Lib.Math.min.name, .initialized "java/lang/Math", .code Lib.Math.min.name Lib.Math.min.code 2 (some .int), .fieldLink RX5 26 "DriftGrinders$Row" "total" "I", .methodLink RX5 29 arraycopyName, .native arraycopyName, .static arraycopyName, .initialized "java/lang/System", .fieldLink RX5 13 "DriftGrinders$Row" "marks" "[I"] ++ wsX50)
def wsX3_copyFrom : List Cond := .code yX3_copyFrom cX3_copyFrom 2 none :: ([.fieldLink RX3 14 "DriftGrinders$Hopper" "lots" "LDriftGrinders$Row;", .methodLink RX3 20 yX5_copyFrom, .instanceMethod yX5_copyFrom, .selects RX5 yX5_copyFrom yX5_copyFrom, .initialized RX5, .code yX5_copyFrom cX5_copyFrom 2 none, .fieldLink RX5 16 "DriftGrinders$Row" "length" "I", .fieldLink RX5 7 "DriftGrinders$Row" "amounts" "[I", .methodLink RX5 20 Lib.Math.min.name, .static Lib.Math.min.name, .initialized "java/lang/Math", .code Lib.Math.min.name Lib.Math.min.code 2 (some .int), .fieldLink RX5 26 "DriftGrinders$Row" "total" "I", .methodLink RX5 29 arraycopyName, .native arraycopyName, .static arraycopyName, .initialized "java/lang/System", .fieldLink RX5 13 "DriftGrinders$Row" "marks" "[I"] ++ wsX30 ++ wsX50)
def wsX6_copyFrom : List Cond := .code yX6_copyFrom cX6_copyFrom 2 none :: ([.fieldLink RX6 11 "DriftGrinders$Shots" "facts" "[I", .methodLink RX6 15 arraycopyName, .native arraycopyName, .static arraycopyName, .initialized "java/lang/System", .fieldLink RX6 21 "DriftGrinders$Shots" "kept" "I", .fieldLink RX6 25 "DriftGrinders$Shots" "made" "I"] ++ wsX60)
def wsX1_copyFrom_r1 : List Cond := [Cond.fieldLink RX1 12 "DriftGrinders$Grinder" "hopper" "LDriftGrinders$Hopper;", Cond.fieldLink RX1 21 "DriftGrinders$Grinder" "burr0" "LDriftGrinders$Burr;", Cond.fieldLink RX1 25 "DriftGrinders$Grinder" "burr1" "LDriftGrinders$Burr;", Cond.fieldLink RX1 33 "DriftGrinders$Grinder" "chute" "LDriftGrinders$Row;", Cond.fieldLink RX1 37 "DriftGrinders$Grinder" "basket" "LDriftGrinders$Row;", Cond.fieldLink RX1 43 "DriftGrinders$Grinder" "shots" "LDriftGrinders$Shots;", Cond.fieldLink RX1 47 "DriftGrinders$Grinder" "settings" "[I", Cond.methodLink RX1 64 arraycopyName, Cond.native arraycopyName, Cond.static arraycopyName, Cond.initialized "java/lang/System", Cond.fieldLink RX1 70 "DriftGrinders$Grinder" "second" "I", Cond.fieldLink RX1 74 "DriftGrinders$Grinder" "filled" "I", Cond.fieldLink RX1 77 "DriftGrinders$Grinder" "ground" "I", Cond.fieldLink RX1 80 "DriftGrinders$Grinder" "brewed" "I", Cond.fieldLink RX1 83 "DriftGrinders$Grinder" "purged" "I", Cond.fieldLink RX1 86 "DriftGrinders$Grinder" "shotsNearTarget" "I", Cond.methodLink RX1 51 yX3_copyFrom, Cond.instanceMethod yX3_copyFrom, Cond.selects RX3 yX3_copyFrom yX3_copyFrom, Cond.initialized RX3, Cond.code yX3_copyFrom cX3_copyFrom 2 none, Cond.fieldLink RX3 14 "DriftGrinders$Hopper" "lots" "LDriftGrinders$Row;", Cond.methodLink RX3 20 yX5_copyFrom]
def wsX1_copyFrom_r2 : List Cond := [Cond.instanceMethod yX5_copyFrom, Cond.selects RX5 yX5_copyFrom yX5_copyFrom, Cond.initialized RX5, Cond.code yX5_copyFrom cX5_copyFrom 2 none, Cond.fieldLink RX5 16 "DriftGrinders$Row" "length" "I", Cond.fieldLink RX5 7 "DriftGrinders$Row" "amounts" "[I", Cond.methodLink RX5 20 Lib.Math.min.name, Cond.static Lib.Math.min.name, Cond.initialized "java/lang/Math", Cond.code Lib.Math.min.name Lib.Math.min.code 2 (some .int), Cond.fieldLink RX5 26 "DriftGrinders$Row" "total" "I", Cond.methodLink RX5 29 arraycopyName, Cond.fieldLink RX5 13 "DriftGrinders$Row" "marks" "[I", Cond.methodLink RX1 55 yX0_copyFrom, Cond.instanceMethod yX0_copyFrom, Cond.selects RX0 yX0_copyFrom yX0_copyFrom, Cond.initialized RX0, Cond.code yX0_copyFrom cX0_copyFrom 2 none, Cond.fieldLink RX0 9 "DriftGrinders$Burr" "dial" "I", Cond.fieldLink RX0 15 "DriftGrinders$Burr" "warmth" "I", Cond.fieldLink RX0 18 "DriftGrinders$Burr" "ground" "I", Cond.fieldLink RX0 21 "DriftGrinders$Burr" "corrections" "I", Cond.methodLink RX1 58 yX5_copyFrom, Cond.methodLink RX1 61 yX6_copyFrom]
def wsX1_copyFrom_r3 : List Cond := [Cond.instanceMethod yX6_copyFrom, Cond.selects RX6 yX6_copyFrom yX6_copyFrom, Cond.initialized RX6, Cond.code yX6_copyFrom cX6_copyFrom 2 none, Cond.fieldLink RX6 11 "DriftGrinders$Shots" "facts" "[I", Cond.methodLink RX6 15 arraycopyName, Cond.fieldLink RX6 21 "DriftGrinders$Shots" "kept" "I", Cond.fieldLink RX6 25 "DriftGrinders$Shots" "made" "I"]
def wsX1_copyFrom : List Cond := .code yX1_copyFrom cX1_copyFrom 2 none :: ((wsX1_copyFrom_r1 ++ (wsX1_copyFrom_r2 ++ wsX1_copyFrom_r3)) ++ wsX10 ++ wsX30 ++ wsX50 ++ wsX00 ++ wsX60)
def wsX1_burrNumbered : List Cond := .code yX1_burrNumbered cX1_burrNumbered 2 (some (.object "DriftGrinders$Burr")) :: ([.fieldLink RX1 21 "DriftGrinders$Grinder" "burr0" "LDriftGrinders$Burr;", .fieldLink RX1 25 "DriftGrinders$Grinder" "burr1" "LDriftGrinders$Burr;"] ++ wsX10)
def wsX7_isZeroOrOne : List Cond := .code yX7_isZeroOrOne cX7_isZeroOrOne 1 (some .boolean) :: ([])
def wsX5_markAt : List Cond := .code yX5_markAt cX5_markAt 2 (some .int) :: ([.fieldLink RX5 16 "DriftGrinders$Row" "length" "I", .fieldLink RX5 13 "DriftGrinders$Row" "marks" "[I"] ++ wsX50)
def wsX3_endsWith : List Cond := .code yX3_endsWith cX3_endsWith 2 (some .boolean) :: ([.fieldLink RX3 14 "DriftGrinders$Hopper" "lots" "LDriftGrinders$Row;", .methodLink RX3 35 yX5_markAt, .instanceMethod yX5_markAt, .selects RX5 yX5_markAt yX5_markAt, .initialized RX5, .code yX5_markAt cX5_markAt 2 (some .int), .fieldLink RX5 16 "DriftGrinders$Row" "length" "I", .fieldLink RX5 13 "DriftGrinders$Row" "marks" "[I"] ++ wsX30 ++ wsX50)
def wsX3_hasRoomFor : List Cond := .code yX3_hasRoomFor cX3_hasRoomFor 3 (some .boolean) :: ([.fieldLink RX3 14 "DriftGrinders$Hopper" "lots" "LDriftGrinders$Row;", .methodLink RX3 31 yX3_endsWith, .instanceMethod yX3_endsWith, .selects RX3 yX3_endsWith yX3_endsWith, .initialized RX3, .code yX3_endsWith cX3_endsWith 2 (some .boolean), .methodLink RX3 35 yX5_markAt, .instanceMethod yX5_markAt, .selects RX5 yX5_markAt yX5_markAt, .initialized RX5, .code yX5_markAt cX5_markAt 2 (some .int), .fieldLink RX5 16 "DriftGrinders$Row" "length" "I", .fieldLink RX5 13 "DriftGrinders$Row" "marks" "[I"] ++ wsX30 ++ wsX50)
def wsX5_addToLast : List Cond := .code yX5_addToLast cX5_addToLast 2 none :: ([.fieldLink RX5 16 "DriftGrinders$Row" "length" "I", .fieldLink RX5 7 "DriftGrinders$Row" "amounts" "[I", .fieldLink RX5 26 "DriftGrinders$Row" "total" "I"] ++ wsX50)
def wsX5_append : List Cond := .code yX5_append cX5_append 3 none :: ([.fieldLink RX5 16 "DriftGrinders$Row" "length" "I", .fieldLink RX5 7 "DriftGrinders$Row" "amounts" "[I", .fieldLink RX5 13 "DriftGrinders$Row" "marks" "[I", .fieldLink RX5 26 "DriftGrinders$Row" "total" "I"] ++ wsX50)
def wsX3_pourIn : List Cond := .code yX3_pourIn cX3_pourIn 3 none :: ([.fieldLink RX3 14 "DriftGrinders$Hopper" "lots" "LDriftGrinders$Row;", .methodLink RX3 31 yX3_endsWith, .instanceMethod yX3_endsWith, .selects RX3 yX3_endsWith yX3_endsWith, .initialized RX3, .code yX3_endsWith cX3_endsWith 2 (some .boolean), .methodLink RX3 35 yX5_markAt, .instanceMethod yX5_markAt, .selects RX5 yX5_markAt yX5_markAt, .initialized RX5, .code yX5_markAt cX5_markAt 2 (some .int), .fieldLink RX5 16 "DriftGrinders$Row" "length" "I", .fieldLink RX5 13 "DriftGrinders$Row" "marks" "[I", .methodLink RX3 39 yX5_addToLast, .instanceMethod yX5_addToLast, .selects RX5 yX5_addToLast yX5_addToLast, .code yX5_addToLast cX5_addToLast 2 none, .fieldLink RX5 7 "DriftGrinders$Row" "amounts" "[I", .fieldLink RX5 26 "DriftGrinders$Row" "total" "I", .methodLink RX3 42 yX5_append, .instanceMethod yX5_append, .selects RX5 yX5_append yX5_append, .code yX5_append cX5_append 3 none] ++ wsX30 ++ wsX50)
def wsX3_amount : List Cond := .code yX3_amount cX3_amount 1 (some .int) :: ([.fieldLink RX3 14 "DriftGrinders$Hopper" "lots" "LDriftGrinders$Row;"] ++ wsX30 ++ wsX50)
def wsX1_fillIn_r1 : List Cond := [Cond.constant RX1 93 (-1000001), Cond.fieldLink RX1 12 "DriftGrinders$Grinder" "hopper" "LDriftGrinders$Hopper;", Cond.constant RX1 98 (-1000003), Cond.fieldLink RX1 74 "DriftGrinders$Grinder" "filled" "I", Cond.static yX7_isZeroOrOne, Cond.initialized RX7, Cond.code yX7_isZeroOrOne cX7_isZeroOrOne 1 (some .boolean), Cond.methodLink RX1 94 yX3_hasRoomFor, Cond.instanceMethod yX3_hasRoomFor, Cond.selects RX3 yX3_hasRoomFor yX3_hasRoomFor, Cond.initialized RX3, Cond.code yX3_hasRoomFor cX3_hasRoomFor 3 (some .boolean), Cond.fieldLink RX3 14 "DriftGrinders$Hopper" "lots" "LDriftGrinders$Row;", Cond.methodLink RX3 31 yX3_endsWith, Cond.instanceMethod yX3_endsWith, Cond.selects RX3 yX3_endsWith yX3_endsWith, Cond.code yX3_endsWith cX3_endsWith 2 (some .boolean), Cond.methodLink RX3 35 yX5_markAt, Cond.instanceMethod yX5_markAt, Cond.selects RX5 yX5_markAt yX5_markAt, Cond.initialized RX5, Cond.code yX5_markAt cX5_markAt 2 (some .int), Cond.fieldLink RX5 16 "DriftGrinders$Row" "length" "I", Cond.fieldLink RX5 13 "DriftGrinders$Row" "marks" "[I"]
def wsX1_fillIn_r2 : List Cond := [Cond.methodLink RX1 99 yX3_pourIn, Cond.instanceMethod yX3_pourIn, Cond.selects RX3 yX3_pourIn yX3_pourIn, Cond.code yX3_pourIn cX3_pourIn 3 none, Cond.methodLink RX3 39 yX5_addToLast, Cond.instanceMethod yX5_addToLast, Cond.selects RX5 yX5_addToLast yX5_addToLast, Cond.code yX5_addToLast cX5_addToLast 2 none, Cond.fieldLink RX5 7 "DriftGrinders$Row" "amounts" "[I", Cond.fieldLink RX5 26 "DriftGrinders$Row" "total" "I", Cond.methodLink RX3 42 yX5_append, Cond.instanceMethod yX5_append, Cond.selects RX5 yX5_append yX5_append, Cond.code yX5_append cX5_append 3 none, Cond.methodLink RX1 103 yX3_amount, Cond.instanceMethod yX3_amount, Cond.selects RX3 yX3_amount yX3_amount, Cond.code yX3_amount cX3_amount 1 (some .int)]
def wsX1_fillIn : List Cond := .code yX1_fillIn cX1_fillIn 3 (some .int) :: ((wsX1_fillIn_r1 ++ wsX1_fillIn_r2) ++ wsX10 ++ wsX30 ++ wsX50)
def wsX7_markOf : List Cond := .code yX7_markOf cX7_markOf 3 (some .int) :: ([])
def wsX5_dropFirst : List Cond := .code yX5_dropFirst cX5_dropFirst 2 none :: ([.fieldLink RX5 16 "DriftGrinders$Row" "length" "I", .fieldLink RX5 7 "DriftGrinders$Row" "amounts" "[I", .methodLink RX5 29 arraycopyName, .native arraycopyName, .static arraycopyName, .initialized "java/lang/System", .fieldLink RX5 13 "DriftGrinders$Row" "marks" "[I"] ++ wsX50)
def wsX5_letOut : List Cond := .code yX5_letOut cX5_letOut 8 none :: ([.fieldLink RX5 16 "DriftGrinders$Row" "length" "I", .fieldLink RX5 7 "DriftGrinders$Row" "amounts" "[I", .methodLink RX5 20 Lib.Math.min.name, .static Lib.Math.min.name, .initialized "java/lang/Math", .code Lib.Math.min.name Lib.Math.min.code 2 (some .int), .fieldLink RX5 13 "DriftGrinders$Row" "marks" "[I", .fieldLink RX5 26 "DriftGrinders$Row" "total" "I", .methodLink RX5 35 yX5_append, .instanceMethod yX5_append, .selects RX5 yX5_append yX5_append, .initialized RX5, .code yX5_append cX5_append 3 none, .methodLink RX5 39 yX5_dropFirst, .instanceMethod yX5_dropFirst, .selects RX5 yX5_dropFirst yX5_dropFirst, .code yX5_dropFirst cX5_dropFirst 2 none, .methodLink RX5 29 arraycopyName, .native arraycopyName, .static arraycopyName, .initialized "java/lang/System"] ++ wsX50)
def wsX3_letOut_r1 : List Cond := [Cond.fieldLink RX3 14 "DriftGrinders$Hopper" "lots" "LDriftGrinders$Row;", Cond.static yX7_markOf, Cond.initialized RX7, Cond.code yX7_markOf cX7_markOf 3 (some .int), Cond.methodLink RX3 50 yX5_letOut, Cond.instanceMethod yX5_letOut, Cond.selects RX5 yX5_letOut yX5_letOut, Cond.initialized RX5, Cond.code yX5_letOut cX5_letOut 8 none, Cond.fieldLink RX5 16 "DriftGrinders$Row" "length" "I", Cond.fieldLink RX5 7 "DriftGrinders$Row" "amounts" "[I", Cond.methodLink RX5 20 Lib.Math.min.name, Cond.static Lib.Math.min.name, Cond.initialized "java/lang/Math", Cond.code Lib.Math.min.name Lib.Math.min.code 2 (some .int), Cond.fieldLink RX5 13 "DriftGrinders$Row" "marks" "[I", Cond.fieldLink RX5 26 "DriftGrinders$Row" "total" "I", Cond.methodLink RX5 35 yX5_append, Cond.instanceMethod yX5_append, Cond.selects RX5 yX5_append yX5_append, Cond.code yX5_append cX5_append 3 none, Cond.methodLink RX5 39 yX5_dropFirst, Cond.instanceMethod yX5_dropFirst, Cond.selects RX5 yX5_dropFirst yX5_dropFirst]
def wsX3_letOut_r2 : List Cond := [Cond.code yX5_dropFirst cX5_dropFirst 2 none, Cond.methodLink RX5 29 arraycopyName, Cond.native arraycopyName, Cond.static arraycopyName, Cond.initialized "java/lang/System"]
def wsX3_letOut : List Cond := .code yX3_letOut cX3_letOut 5 none :: ((wsX3_letOut_r1 ++ wsX3_letOut_r2) ++ wsX30 ++ wsX50)
def wsX1_passSeconds : List Cond := .code yX1_passSeconds cX1_passSeconds 3 none :: ([.fieldLink RX1 70 "DriftGrinders$Grinder" "second" "I", .fieldLink RX1 21 "DriftGrinders$Grinder" "burr0" "LDriftGrinders$Burr;", .fieldLink RX1 25 "DriftGrinders$Grinder" "burr1" "LDriftGrinders$Burr;", .methodLink RX1 143 yX0_cool, .instanceMethod yX0_cool, .selects RX0 yX0_cool yX0_cool, .initialized RX0, .code yX0_cool cX0_cool 3 none, .fieldLink RX0 15 "DriftGrinders$Burr" "warmth" "I", .static yX7_fallOf, .initialized RX7, .code yX7_fallOf cX7_fallOf 1 (some .int)] ++ wsX10 ++ wsX00)
def wsX1_grindBy_r1 : List Cond := [Cond.constant RX1 93 (-1000001), Cond.fieldLink RX1 12 "DriftGrinders$Grinder" "hopper" "LDriftGrinders$Hopper;", Cond.constant RX1 107 (-1000002), Cond.fieldLink RX1 33 "DriftGrinders$Grinder" "chute" "LDriftGrinders$Row;", Cond.fieldLink RX1 47 "DriftGrinders$Grinder" "settings" "[I", Cond.methodLink RX1 111 Lib.Math.max.name, Cond.static Lib.Math.max.name, Cond.initialized "java/lang/Math", Cond.code Lib.Math.max.name Lib.Math.max.code 2 (some .int), Cond.fieldLink RX1 37 "DriftGrinders$Grinder" "basket" "LDriftGrinders$Row;", Cond.constant RX1 98 (-1000003), Cond.fieldLink RX1 77 "DriftGrinders$Grinder" "ground" "I", Cond.static yX7_isZeroOrOne, Cond.initialized RX7, Cond.code yX7_isZeroOrOne cX7_isZeroOrOne 1 (some .boolean), Cond.methodLink RX1 103 yX3_amount, Cond.instanceMethod yX3_amount, Cond.selects RX3 yX3_amount yX3_amount, Cond.initialized RX3, Cond.code yX3_amount cX3_amount 1 (some .int), Cond.fieldLink RX3 14 "DriftGrinders$Hopper" "lots" "LDriftGrinders$Row;", Cond.methodLink RX1 117 yX1_burrNumbered, Cond.instanceMethod yX1_burrNumbered, Cond.selects RX1 yX1_burrNumbered yX1_burrNumbered]
def wsX1_grindBy_r2 : List Cond := [Cond.initialized RX1, Cond.code yX1_burrNumbered cX1_burrNumbered 2 (some (.object "DriftGrinders$Burr")), Cond.fieldLink RX1 21 "DriftGrinders$Grinder" "burr0" "LDriftGrinders$Burr;", Cond.fieldLink RX1 25 "DriftGrinders$Grinder" "burr1" "LDriftGrinders$Burr;", Cond.methodLink RX1 121 yX0_gap, Cond.instanceMethod yX0_gap, Cond.selects RX0 yX0_gap yX0_gap, Cond.initialized RX0, Cond.code yX0_gap cX0_gap 1 (some .int), Cond.fieldLink RX0 9 "DriftGrinders$Burr" "dial" "I", Cond.methodLink RX0 24 yX0_gapAt, Cond.instanceMethod yX0_gapAt, Cond.selects RX0 yX0_gapAt yX0_gapAt, Cond.code yX0_gapAt cX0_gapAt 2 (some .int), Cond.fieldLink RX0 15 "DriftGrinders$Burr" "warmth" "I", Cond.methodLink RX0 28 Lib.Math.max.name, Cond.methodLink RX1 124 yX3_letOut, Cond.instanceMethod yX3_letOut, Cond.selects RX3 yX3_letOut yX3_letOut, Cond.code yX3_letOut cX3_letOut 5 none, Cond.static yX7_markOf, Cond.code yX7_markOf cX7_markOf 3 (some .int), Cond.methodLink RX3 50 yX5_letOut, Cond.instanceMethod yX5_letOut]
def wsX1_grindBy_r3 : List Cond := [Cond.selects RX5 yX5_letOut yX5_letOut, Cond.initialized RX5, Cond.code yX5_letOut cX5_letOut 8 none, Cond.fieldLink RX5 16 "DriftGrinders$Row" "length" "I", Cond.fieldLink RX5 7 "DriftGrinders$Row" "amounts" "[I", Cond.methodLink RX5 20 Lib.Math.min.name, Cond.static Lib.Math.min.name, Cond.code Lib.Math.min.name Lib.Math.min.code 2 (some .int), Cond.fieldLink RX5 13 "DriftGrinders$Row" "marks" "[I", Cond.fieldLink RX5 26 "DriftGrinders$Row" "total" "I", Cond.methodLink RX5 35 yX5_append, Cond.instanceMethod yX5_append, Cond.selects RX5 yX5_append yX5_append, Cond.code yX5_append cX5_append 3 none, Cond.methodLink RX5 39 yX5_dropFirst, Cond.instanceMethod yX5_dropFirst, Cond.selects RX5 yX5_dropFirst yX5_dropFirst, Cond.code yX5_dropFirst cX5_dropFirst 2 none, Cond.methodLink RX5 29 arraycopyName, Cond.native arraycopyName, Cond.static arraycopyName, Cond.initialized "java/lang/System", Cond.methodLink RX1 128 yX0_warmByGrinding, Cond.instanceMethod yX0_warmByGrinding]
def wsX1_grindBy_r4 : List Cond := [Cond.selects RX0 yX0_warmByGrinding yX0_warmByGrinding, Cond.code yX0_warmByGrinding cX0_warmByGrinding 2 none, Cond.methodLink RX0 34 Lib.Math.min.name, Cond.fieldLink RX0 18 "DriftGrinders$Burr" "ground" "I", Cond.methodLink RX1 131 yX5_letOut, Cond.methodLink RX1 134 yX1_passSeconds, Cond.instanceMethod yX1_passSeconds, Cond.selects RX1 yX1_passSeconds yX1_passSeconds, Cond.code yX1_passSeconds cX1_passSeconds 3 none, Cond.fieldLink RX1 70 "DriftGrinders$Grinder" "second" "I", Cond.methodLink RX1 143 yX0_cool, Cond.instanceMethod yX0_cool, Cond.selects RX0 yX0_cool yX0_cool, Cond.code yX0_cool cX0_cool 3 none, Cond.static yX7_fallOf, Cond.code yX7_fallOf cX7_fallOf 1 (some .int)]
def wsX1_grindBy : List Cond := .code yX1_grindBy cX1_grindBy 5 (some .int) :: ((wsX1_grindBy_r1 ++ (wsX1_grindBy_r2 ++ (wsX1_grindBy_r3 ++ wsX1_grindBy_r4))) ++ wsX10 ++ wsX50 ++ wsX30 ++ wsX00)
def wsX1_turnDial : List Cond := .code yX1_turnDial cX1_turnDial 5 (some .int) :: ([.constant RX1 93 (-1000001), .static yX7_isZeroOrOne, .initialized RX7, .code yX7_isZeroOrOne cX7_isZeroOrOne 1 (some .boolean), .methodLink RX1 117 yX1_burrNumbered, .instanceMethod yX1_burrNumbered, .selects RX1 yX1_burrNumbered yX1_burrNumbered, .initialized RX1, .code yX1_burrNumbered cX1_burrNumbered 2 (some (.object "DriftGrinders$Burr")), .fieldLink RX1 21 "DriftGrinders$Grinder" "burr0" "LDriftGrinders$Burr;", .fieldLink RX1 25 "DriftGrinders$Grinder" "burr1" "LDriftGrinders$Burr;"] ++ wsX00 ++ wsX10)
def wsX1_letPass : List Cond := .code yX1_letPass cX1_letPass 3 (some .int) :: ([.constant RX1 93 (-1000001), .fieldLink RX1 21 "DriftGrinders$Grinder" "burr0" "LDriftGrinders$Burr;", .fieldLink RX1 25 "DriftGrinders$Grinder" "burr1" "LDriftGrinders$Burr;", .methodLink RX1 134 yX1_passSeconds, .instanceMethod yX1_passSeconds, .selects RX1 yX1_passSeconds yX1_passSeconds, .initialized RX1, .code yX1_passSeconds cX1_passSeconds 3 none, .fieldLink RX1 70 "DriftGrinders$Grinder" "second" "I", .methodLink RX1 143 yX0_cool, .instanceMethod yX0_cool, .selects RX0 yX0_cool yX0_cool, .initialized RX0, .code yX0_cool cX0_cool 3 none, .fieldLink RX0 15 "DriftGrinders$Burr" "warmth" "I", .static yX7_fallOf, .initialized RX7, .code yX7_fallOf cX7_fallOf 1 (some .int)] ++ wsX10 ++ wsX00)
def wsX5_amountAt : List Cond := .code yX5_amountAt cX5_amountAt 2 (some .int) :: ([.fieldLink RX5 16 "DriftGrinders$Row" "length" "I", .fieldLink RX5 7 "DriftGrinders$Row" "amounts" "[I"] ++ wsX50)
def wsX7_kindOfMark : List Cond := .code yX7_kindOfMark cX7_kindOfMark 1 (some .int) :: ([])
def wsX1_hardnessOf : List Cond := .code yX1_hardnessOf cX1_hardnessOf 2 (some .int) :: ([.fieldLink RX1 47 "DriftGrinders$Grinder" "settings" "[I"] ++ wsX10)
def wsX7_gapOfMark : List Cond := .code yX7_gapOfMark cX7_gapOfMark 1 (some .int) :: ([])
def wsX7_flowOf : List Cond := .code yX7_flowOf cX7_flowOf 2 (some .int) :: ([])
def wsX1_flowOfMark : List Cond := .code yX1_flowOfMark cX1_flowOfMark 2 (some .int) :: ([.static yX7_kindOfMark, .initialized RX7, .code yX7_kindOfMark cX7_kindOfMark 1 (some .int), .methodLink RX1 185 yX1_hardnessOf, .instanceMethod yX1_hardnessOf, .selects RX1 yX1_hardnessOf yX1_hardnessOf, .initialized RX1, .code yX1_hardnessOf cX1_hardnessOf 2 (some .int), .fieldLink RX1 47 "DriftGrinders$Grinder" "settings" "[I", .static yX7_gapOfMark, .code yX7_gapOfMark cX7_gapOfMark 1 (some .int), .static yX7_flowOf, .code yX7_flowOf cX7_flowOf 2 (some .int)] ++ wsX10)
def wsX1_timeOfBasket_r1 : List Cond := [Cond.fieldLink RX1 37 "DriftGrinders$Grinder" "basket" "LDriftGrinders$Row;", Cond.constant RX1 107 (-1000002), Cond.methodLink RX1 173 yX5_amountAt, Cond.instanceMethod yX5_amountAt, Cond.selects RX5 yX5_amountAt yX5_amountAt, Cond.initialized RX5, Cond.code yX5_amountAt cX5_amountAt 2 (some .int), Cond.fieldLink RX5 16 "DriftGrinders$Row" "length" "I", Cond.fieldLink RX5 7 "DriftGrinders$Row" "amounts" "[I", Cond.methodLink RX1 176 yX5_markAt, Cond.instanceMethod yX5_markAt, Cond.selects RX5 yX5_markAt yX5_markAt, Cond.code yX5_markAt cX5_markAt 2 (some .int), Cond.fieldLink RX5 13 "DriftGrinders$Row" "marks" "[I", Cond.methodLink RX1 179 yX1_flowOfMark, Cond.instanceMethod yX1_flowOfMark, Cond.selects RX1 yX1_flowOfMark yX1_flowOfMark, Cond.initialized RX1, Cond.code yX1_flowOfMark cX1_flowOfMark 2 (some .int), Cond.static yX7_kindOfMark, Cond.initialized RX7, Cond.code yX7_kindOfMark cX7_kindOfMark 1 (some .int), Cond.methodLink RX1 185 yX1_hardnessOf, Cond.instanceMethod yX1_hardnessOf]
def wsX1_timeOfBasket_r2 : List Cond := [Cond.selects RX1 yX1_hardnessOf yX1_hardnessOf, Cond.code yX1_hardnessOf cX1_hardnessOf 2 (some .int), Cond.fieldLink RX1 47 "DriftGrinders$Grinder" "settings" "[I", Cond.static yX7_gapOfMark, Cond.code yX7_gapOfMark cX7_gapOfMark 1 (some .int), Cond.static yX7_flowOf, Cond.code yX7_flowOf cX7_flowOf 2 (some .int)]
def wsX1_timeOfBasket : List Cond := .code yX1_timeOfBasket cX1_timeOfBasket 3 (some .int) :: ((wsX1_timeOfBasket_r1 ++ wsX1_timeOfBasket_r2) ++ wsX10 ++ wsX50)
def wsX5_isMostly : List Cond := .code yX5_isMostly cX5_isMostly 4 (some .boolean) :: ([.fieldLink RX5 16 "DriftGrinders$Row" "length" "I", .fieldLink RX5 13 "DriftGrinders$Row" "marks" "[I", .fieldLink RX5 7 "DriftGrinders$Row" "amounts" "[I", .fieldLink RX5 26 "DriftGrinders$Row" "total" "I"] ++ wsX50)
def wsX6_add : List Cond := .code yX6_add cX6_add 7 none :: ([.fieldLink RX6 11 "DriftGrinders$Shots" "facts" "[I", .methodLink RX6 15 arraycopyName, .native arraycopyName, .static arraycopyName, .initialized "java/lang/System", .fieldLink RX6 25 "DriftGrinders$Shots" "made" "I", .fieldLink RX6 21 "DriftGrinders$Shots" "kept" "I", .methodLink RX6 28 Lib.Math.min.name, .static Lib.Math.min.name, .initialized "java/lang/Math", .code Lib.Math.min.name Lib.Math.min.code 2 (some .int)] ++ wsX60)
def wsX5_clear : List Cond := .code yX5_clear cX5_clear 1 none :: ([.fieldLink RX5 16 "DriftGrinders$Row" "length" "I", .fieldLink RX5 26 "DriftGrinders$Row" "total" "I"] ++ wsX50)
def wsX1_judge : List Cond := .code yX1_judge cX1_judge 3 none :: ([.fieldLink RX1 47 "DriftGrinders$Grinder" "settings" "[I", .methodLink RX1 166 Lib.Math.abs.name, .static Lib.Math.abs.name, .initialized "java/lang/Math", .code Lib.Math.abs.name Lib.Math.abs.code 1 (some .int), .fieldLink RX1 86 "DriftGrinders$Grinder" "shotsNearTarget" "I", .methodLink RX1 170 yX0_correctBy, .instanceMethod yX0_correctBy, .selects RX0 yX0_correctBy yX0_correctBy, .initialized RX0, .code yX0_correctBy cX0_correctBy 4 none, .fieldLink RX0 9 "DriftGrinders$Burr" "dial" "I", .methodLink RX0 28 Lib.Math.max.name, .static Lib.Math.max.name, .code Lib.Math.max.name Lib.Math.max.code 2 (some .int), .methodLink RX0 34 Lib.Math.min.name, .static Lib.Math.min.name, .code Lib.Math.min.name Lib.Math.min.code 2 (some .int), .fieldLink RX0 21 "DriftGrinders$Burr" "corrections" "I"] ++ wsX10 ++ wsX00)
def wsX1_makeShot_r1 : List Cond := [Cond.fieldLink RX1 37 "DriftGrinders$Grinder" "basket" "LDriftGrinders$Row;", Cond.fieldLink RX1 43 "DriftGrinders$Grinder" "shots" "LDriftGrinders$Shots;", Cond.fieldLink RX1 70 "DriftGrinders$Grinder" "second" "I", Cond.fieldLink RX1 80 "DriftGrinders$Grinder" "brewed" "I", Cond.methodLink RX1 146 yX1_timeOfBasket, Cond.instanceMethod yX1_timeOfBasket, Cond.selects RX1 yX1_timeOfBasket yX1_timeOfBasket, Cond.initialized RX1, Cond.code yX1_timeOfBasket cX1_timeOfBasket 3 (some .int), Cond.constant RX1 107 (-1000002), Cond.methodLink RX1 173 yX5_amountAt, Cond.instanceMethod yX5_amountAt, Cond.selects RX5 yX5_amountAt yX5_amountAt, Cond.initialized RX5, Cond.code yX5_amountAt cX5_amountAt 2 (some .int), Cond.fieldLink RX5 16 "DriftGrinders$Row" "length" "I", Cond.fieldLink RX5 7 "DriftGrinders$Row" "amounts" "[I", Cond.methodLink RX1 176 yX5_markAt, Cond.instanceMethod yX5_markAt, Cond.selects RX5 yX5_markAt yX5_markAt, Cond.code yX5_markAt cX5_markAt 2 (some .int), Cond.fieldLink RX5 13 "DriftGrinders$Row" "marks" "[I", Cond.methodLink RX1 179 yX1_flowOfMark, Cond.instanceMethod yX1_flowOfMark]
def wsX1_makeShot_r2 : List Cond := [Cond.selects RX1 yX1_flowOfMark yX1_flowOfMark, Cond.code yX1_flowOfMark cX1_flowOfMark 2 (some .int), Cond.static yX7_kindOfMark, Cond.initialized RX7, Cond.code yX7_kindOfMark cX7_kindOfMark 1 (some .int), Cond.methodLink RX1 185 yX1_hardnessOf, Cond.instanceMethod yX1_hardnessOf, Cond.selects RX1 yX1_hardnessOf yX1_hardnessOf, Cond.code yX1_hardnessOf cX1_hardnessOf 2 (some .int), Cond.fieldLink RX1 47 "DriftGrinders$Grinder" "settings" "[I", Cond.static yX7_gapOfMark, Cond.code yX7_gapOfMark cX7_gapOfMark 1 (some .int), Cond.static yX7_flowOf, Cond.code yX7_flowOf cX7_flowOf 2 (some .int), Cond.methodLink RX1 149 yX5_isMostly, Cond.instanceMethod yX5_isMostly, Cond.selects RX5 yX5_isMostly yX5_isMostly, Cond.code yX5_isMostly cX5_isMostly 4 (some .boolean), Cond.fieldLink RX5 26 "DriftGrinders$Row" "total" "I", Cond.methodLink RX1 155 yX6_add, Cond.instanceMethod yX6_add, Cond.selects RX6 yX6_add yX6_add, Cond.initialized RX6, Cond.code yX6_add cX6_add 7 none]
def wsX1_makeShot_r3 : List Cond := [Cond.fieldLink RX6 11 "DriftGrinders$Shots" "facts" "[I", Cond.methodLink RX6 15 arraycopyName, Cond.native arraycopyName, Cond.static arraycopyName, Cond.initialized "java/lang/System", Cond.fieldLink RX6 25 "DriftGrinders$Shots" "made" "I", Cond.fieldLink RX6 21 "DriftGrinders$Shots" "kept" "I", Cond.methodLink RX6 28 Lib.Math.min.name, Cond.static Lib.Math.min.name, Cond.initialized "java/lang/Math", Cond.code Lib.Math.min.name Lib.Math.min.code 2 (some .int), Cond.methodLink RX1 159 yX5_clear, Cond.instanceMethod yX5_clear, Cond.selects RX5 yX5_clear yX5_clear, Cond.code yX5_clear cX5_clear 1 none, Cond.methodLink RX1 117 yX1_burrNumbered, Cond.instanceMethod yX1_burrNumbered, Cond.selects RX1 yX1_burrNumbered yX1_burrNumbered, Cond.code yX1_burrNumbered cX1_burrNumbered 2 (some (.object "DriftGrinders$Burr")), Cond.fieldLink RX1 21 "DriftGrinders$Grinder" "burr0" "LDriftGrinders$Burr;", Cond.fieldLink RX1 25 "DriftGrinders$Grinder" "burr1" "LDriftGrinders$Burr;", Cond.methodLink RX1 162 yX1_judge, Cond.instanceMethod yX1_judge, Cond.selects RX1 yX1_judge yX1_judge]
def wsX1_makeShot_r4 : List Cond := [Cond.code yX1_judge cX1_judge 3 none, Cond.methodLink RX1 166 Lib.Math.abs.name, Cond.static Lib.Math.abs.name, Cond.code Lib.Math.abs.name Lib.Math.abs.code 1 (some .int), Cond.fieldLink RX1 86 "DriftGrinders$Grinder" "shotsNearTarget" "I", Cond.methodLink RX1 170 yX0_correctBy, Cond.instanceMethod yX0_correctBy, Cond.selects RX0 yX0_correctBy yX0_correctBy, Cond.initialized RX0, Cond.code yX0_correctBy cX0_correctBy 4 none, Cond.fieldLink RX0 9 "DriftGrinders$Burr" "dial" "I", Cond.methodLink RX0 28 Lib.Math.max.name, Cond.static Lib.Math.max.name, Cond.code Lib.Math.max.name Lib.Math.max.code 2 (some .int), Cond.methodLink RX0 34 Lib.Math.min.name, Cond.fieldLink RX0 21 "DriftGrinders$Burr" "corrections" "I", Cond.methodLink RX1 134 yX1_passSeconds, Cond.instanceMethod yX1_passSeconds, Cond.selects RX1 yX1_passSeconds yX1_passSeconds, Cond.code yX1_passSeconds cX1_passSeconds 3 none, Cond.methodLink RX1 143 yX0_cool, Cond.instanceMethod yX0_cool, Cond.selects RX0 yX0_cool yX0_cool, Cond.code yX0_cool cX0_cool 3 none]
def wsX1_makeShot_r5 : List Cond := [Cond.fieldLink RX0 15 "DriftGrinders$Burr" "warmth" "I", Cond.static yX7_fallOf, Cond.code yX7_fallOf cX7_fallOf 1 (some .int)]
def wsX1_makeShot : List Cond := .code yX1_makeShot cX1_makeShot 4 (some .int) :: ((wsX1_makeShot_r1 ++ (wsX1_makeShot_r2 ++ (wsX1_makeShot_r3 ++ (wsX1_makeShot_r4 ++ wsX1_makeShot_r5)))) ++ wsX10 ++ wsX50 ++ wsX60 ++ wsX00)
def wsX1_emptyChute : List Cond := .code yX1_emptyChute cX1_emptyChute 2 (some .int) :: ([.fieldLink RX1 33 "DriftGrinders$Grinder" "chute" "LDriftGrinders$Row;", .fieldLink RX1 83 "DriftGrinders$Grinder" "purged" "I", .methodLink RX1 159 yX5_clear, .instanceMethod yX5_clear, .selects RX5 yX5_clear yX5_clear, .initialized RX5, .code yX5_clear cX5_clear 1 none, .fieldLink RX5 16 "DriftGrinders$Row" "length" "I", .fieldLink RX5 26 "DriftGrinders$Row" "total" "I"] ++ wsX10 ++ wsX50)
def wsX6_latestTime : List Cond := .code yX6_latestTime cX6_latestTime 1 (some .int) :: ([.fieldLink RX6 11 "DriftGrinders$Shots" "facts" "[I"] ++ wsX60)
def wsX1_correctByLatest_r1 : List Cond := [Cond.constant RX1 93 (-1000001), Cond.fieldLink RX1 43 "DriftGrinders$Grinder" "shots" "LDriftGrinders$Shots;", Cond.constant RX1 107 (-1000002), Cond.fieldLink RX1 47 "DriftGrinders$Grinder" "settings" "[I", Cond.static yX7_isZeroOrOne, Cond.initialized RX7, Cond.code yX7_isZeroOrOne cX7_isZeroOrOne 1 (some .boolean), Cond.methodLink RX1 117 yX1_burrNumbered, Cond.instanceMethod yX1_burrNumbered, Cond.selects RX1 yX1_burrNumbered yX1_burrNumbered, Cond.initialized RX1, Cond.code yX1_burrNumbered cX1_burrNumbered 2 (some (.object "DriftGrinders$Burr")), Cond.fieldLink RX1 21 "DriftGrinders$Grinder" "burr0" "LDriftGrinders$Burr;", Cond.fieldLink RX1 25 "DriftGrinders$Grinder" "burr1" "LDriftGrinders$Burr;", Cond.methodLink RX1 197 yX6_latestTime, Cond.instanceMethod yX6_latestTime, Cond.selects RX6 yX6_latestTime yX6_latestTime, Cond.initialized RX6, Cond.code yX6_latestTime cX6_latestTime 1 (some .int), Cond.fieldLink RX6 11 "DriftGrinders$Shots" "facts" "[I", Cond.methodLink RX1 170 yX0_correctBy, Cond.instanceMethod yX0_correctBy, Cond.selects RX0 yX0_correctBy yX0_correctBy, Cond.initialized RX0]
def wsX1_correctByLatest_r2 : List Cond := [Cond.code yX0_correctBy cX0_correctBy 4 none, Cond.fieldLink RX0 9 "DriftGrinders$Burr" "dial" "I", Cond.methodLink RX0 28 Lib.Math.max.name, Cond.static Lib.Math.max.name, Cond.initialized "java/lang/Math", Cond.code Lib.Math.max.name Lib.Math.max.code 2 (some .int), Cond.methodLink RX0 34 Lib.Math.min.name, Cond.static Lib.Math.min.name, Cond.code Lib.Math.min.name Lib.Math.min.code 2 (some .int), Cond.fieldLink RX0 21 "DriftGrinders$Burr" "corrections" "I"]
def wsX1_correctByLatest : List Cond := .code yX1_correctByLatest cX1_correctByLatest 3 (some .int) :: ((wsX1_correctByLatest_r1 ++ wsX1_correctByLatest_r2) ++ wsX10 ++ wsX60 ++ wsX00)
def wsX1_changeSetting : List Cond := .code yX1_changeSetting cX1_changeSetting 4 (some .int) :: ([.fieldLink RX1 47 "DriftGrinders$Grinder" "settings" "[I", .constant RX1 93 (-1000001)] ++ wsX10)
def wsX7_burrOfMark : List Cond := .code yX7_burrOfMark cX7_burrOfMark 1 (some .int) :: ([])
def wsX1_tellPortion_r1 : List Cond := [Cond.constant RX1 206 (-1000004), Cond.methodLink RX1 176 yX5_markAt, Cond.instanceMethod yX5_markAt, Cond.selects RX5 yX5_markAt yX5_markAt, Cond.initialized RX5, Cond.code yX5_markAt cX5_markAt 2 (some .int), Cond.fieldLink RX5 16 "DriftGrinders$Row" "length" "I", Cond.fieldLink RX5 13 "DriftGrinders$Row" "marks" "[I", Cond.methodLink RX1 173 yX5_amountAt, Cond.instanceMethod yX5_amountAt, Cond.selects RX5 yX5_amountAt yX5_amountAt, Cond.code yX5_amountAt cX5_amountAt 2 (some .int), Cond.fieldLink RX5 7 "DriftGrinders$Row" "amounts" "[I", Cond.static yX7_kindOfMark, Cond.initialized RX7, Cond.code yX7_kindOfMark cX7_kindOfMark 1 (some .int), Cond.static yX7_burrOfMark, Cond.code yX7_burrOfMark cX7_burrOfMark 1 (some .int), Cond.static yX7_gapOfMark, Cond.code yX7_gapOfMark cX7_gapOfMark 1 (some .int), Cond.methodLink RX1 179 yX1_flowOfMark, Cond.instanceMethod yX1_flowOfMark, Cond.selects RX1 yX1_flowOfMark yX1_flowOfMark, Cond.initialized RX1]
def wsX1_tellPortion_r2 : List Cond := [Cond.code yX1_flowOfMark cX1_flowOfMark 2 (some .int), Cond.methodLink RX1 185 yX1_hardnessOf, Cond.instanceMethod yX1_hardnessOf, Cond.selects RX1 yX1_hardnessOf yX1_hardnessOf, Cond.code yX1_hardnessOf cX1_hardnessOf 2 (some .int), Cond.fieldLink RX1 47 "DriftGrinders$Grinder" "settings" "[I", Cond.static yX7_flowOf, Cond.code yX7_flowOf cX7_flowOf 2 (some .int)]
def wsX1_tellPortion : List Cond := .code yX1_tellPortion cX1_tellPortion 5 (some .int) :: ((wsX1_tellPortion_r1 ++ wsX1_tellPortion_r2) ++ wsX50 ++ wsX10)
def wsX1_awayAtDial : List Cond := .code yX1_awayAtDial cX1_awayAtDial 4 (some .int) :: ([.fieldLink RX1 47 "DriftGrinders$Grinder" "settings" "[I", .methodLink RX1 166 Lib.Math.abs.name, .static Lib.Math.abs.name, .initialized "java/lang/Math", .code Lib.Math.abs.name Lib.Math.abs.code 1 (some .int), .methodLink RX1 185 yX1_hardnessOf, .instanceMethod yX1_hardnessOf, .selects RX1 yX1_hardnessOf yX1_hardnessOf, .initialized RX1, .code yX1_hardnessOf cX1_hardnessOf 2 (some .int), .methodLink RX1 214 yX0_gapAt, .instanceMethod yX0_gapAt, .selects RX0 yX0_gapAt yX0_gapAt, .initialized RX0, .code yX0_gapAt cX0_gapAt 2 (some .int), .fieldLink RX0 15 "DriftGrinders$Burr" "warmth" "I", .methodLink RX0 28 Lib.Math.max.name, .static Lib.Math.max.name, .code Lib.Math.max.name Lib.Math.max.code 2 (some .int), .static yX7_flowOf, .initialized RX7, .code yX7_flowOf cX7_flowOf 2 (some .int)] ++ wsX10 ++ wsX00)
def wsX1_nearestDial_r1 : List Cond := [Cond.methodLink RX1 210 yX1_awayAtDial, Cond.instanceMethod yX1_awayAtDial, Cond.selects RX1 yX1_awayAtDial yX1_awayAtDial, Cond.initialized RX1, Cond.code yX1_awayAtDial cX1_awayAtDial 4 (some .int), Cond.fieldLink RX1 47 "DriftGrinders$Grinder" "settings" "[I", Cond.methodLink RX1 166 Lib.Math.abs.name, Cond.static Lib.Math.abs.name, Cond.initialized "java/lang/Math", Cond.code Lib.Math.abs.name Lib.Math.abs.code 1 (some .int), Cond.methodLink RX1 185 yX1_hardnessOf, Cond.instanceMethod yX1_hardnessOf, Cond.selects RX1 yX1_hardnessOf yX1_hardnessOf, Cond.code yX1_hardnessOf cX1_hardnessOf 2 (some .int), Cond.methodLink RX1 214 yX0_gapAt, Cond.instanceMethod yX0_gapAt, Cond.selects RX0 yX0_gapAt yX0_gapAt, Cond.initialized RX0, Cond.code yX0_gapAt cX0_gapAt 2 (some .int), Cond.fieldLink RX0 15 "DriftGrinders$Burr" "warmth" "I", Cond.methodLink RX0 28 Lib.Math.max.name, Cond.static Lib.Math.max.name, Cond.code Lib.Math.max.name Lib.Math.max.code 2 (some .int), Cond.static yX7_flowOf]
def wsX1_nearestDial_r2 : List Cond := [Cond.initialized RX7, Cond.code yX7_flowOf cX7_flowOf 2 (some .int)]
def wsX1_nearestDial : List Cond := .code yX1_nearestDial cX1_nearestDial 5 (some .int) :: ((wsX1_nearestDial_r1 ++ wsX1_nearestDial_r2) ++ wsX10 ++ wsX00)
def wsX3_isEmpty : List Cond := .code yX3_isEmpty cX3_isEmpty 1 (some .boolean) :: ([.fieldLink RX3 14 "DriftGrinders$Hopper" "lots" "LDriftGrinders$Row;"] ++ wsX30 ++ wsX50)
def wsX3_firstKind : List Cond := .code yX3_firstKind cX3_firstKind 1 (some .int) :: ([.fieldLink RX3 14 "DriftGrinders$Hopper" "lots" "LDriftGrinders$Row;", .methodLink RX3 35 yX5_markAt, .instanceMethod yX5_markAt, .selects RX5 yX5_markAt yX5_markAt, .initialized RX5, .code yX5_markAt cX5_markAt 2 (some .int), .fieldLink RX5 16 "DriftGrinders$Row" "length" "I", .fieldLink RX5 13 "DriftGrinders$Row" "marks" "[I"] ++ wsX30 ++ wsX50)
def wsX5_amountUpToLastUnlike : List Cond := .code yX5_amountUpToLastUnlike cX5_amountUpToLastUnlike 5 (some .int) :: ([.fieldLink RX5 16 "DriftGrinders$Row" "length" "I", .fieldLink RX5 7 "DriftGrinders$Row" "amounts" "[I", .fieldLink RX5 13 "DriftGrinders$Row" "marks" "[I"] ++ wsX50)
def wsX1_staleFor_r1 : List Cond := [Cond.fieldLink RX1 12 "DriftGrinders$Grinder" "hopper" "LDriftGrinders$Hopper;", Cond.constant RX1 107 (-1000002), Cond.fieldLink RX1 33 "DriftGrinders$Grinder" "chute" "LDriftGrinders$Row;", Cond.methodLink RX1 217 yX3_isEmpty, Cond.instanceMethod yX3_isEmpty, Cond.selects RX3 yX3_isEmpty yX3_isEmpty, Cond.initialized RX3, Cond.code yX3_isEmpty cX3_isEmpty 1 (some .boolean), Cond.fieldLink RX3 14 "DriftGrinders$Hopper" "lots" "LDriftGrinders$Row;", Cond.methodLink RX1 221 yX3_firstKind, Cond.instanceMethod yX3_firstKind, Cond.selects RX3 yX3_firstKind yX3_firstKind, Cond.code yX3_firstKind cX3_firstKind 1 (some .int), Cond.methodLink RX3 35 yX5_markAt, Cond.instanceMethod yX5_markAt, Cond.selects RX5 yX5_markAt yX5_markAt, Cond.initialized RX5, Cond.code yX5_markAt cX5_markAt 2 (some .int), Cond.fieldLink RX5 16 "DriftGrinders$Row" "length" "I", Cond.fieldLink RX5 13 "DriftGrinders$Row" "marks" "[I", Cond.methodLink RX1 117 yX1_burrNumbered, Cond.instanceMethod yX1_burrNumbered, Cond.selects RX1 yX1_burrNumbered yX1_burrNumbered, Cond.initialized RX1]
def wsX1_staleFor_r2 : List Cond := [Cond.code yX1_burrNumbered cX1_burrNumbered 2 (some (.object "DriftGrinders$Burr")), Cond.fieldLink RX1 21 "DriftGrinders$Grinder" "burr0" "LDriftGrinders$Burr;", Cond.fieldLink RX1 25 "DriftGrinders$Grinder" "burr1" "LDriftGrinders$Burr;", Cond.methodLink RX1 121 yX0_gap, Cond.instanceMethod yX0_gap, Cond.selects RX0 yX0_gap yX0_gap, Cond.initialized RX0, Cond.code yX0_gap cX0_gap 1 (some .int), Cond.fieldLink RX0 9 "DriftGrinders$Burr" "dial" "I", Cond.methodLink RX0 24 yX0_gapAt, Cond.instanceMethod yX0_gapAt, Cond.selects RX0 yX0_gapAt yX0_gapAt, Cond.code yX0_gapAt cX0_gapAt 2 (some .int), Cond.fieldLink RX0 15 "DriftGrinders$Burr" "warmth" "I", Cond.methodLink RX0 28 Lib.Math.max.name, Cond.static Lib.Math.max.name, Cond.initialized "java/lang/Math", Cond.code Lib.Math.max.name Lib.Math.max.code 2 (some .int), Cond.static yX7_markOf, Cond.initialized RX7, Cond.code yX7_markOf cX7_markOf 3 (some .int), Cond.methodLink RX1 228 yX5_amountUpToLastUnlike, Cond.instanceMethod yX5_amountUpToLastUnlike, Cond.selects RX5 yX5_amountUpToLastUnlike yX5_amountUpToLastUnlike]
def wsX1_staleFor_r3 : List Cond := [Cond.code yX5_amountUpToLastUnlike cX5_amountUpToLastUnlike 5 (some .int), Cond.fieldLink RX5 7 "DriftGrinders$Row" "amounts" "[I"]
def wsX1_staleFor : List Cond := .code yX1_staleFor cX1_staleFor 3 (some .int) :: ((wsX1_staleFor_r1 ++ (wsX1_staleFor_r2 ++ wsX1_staleFor_r3)) ++ wsX10 ++ wsX30 ++ wsX50 ++ wsX00)
def wsX1_secondsToCool : List Cond := .code yX1_secondsToCool cX1_secondsToCool 4 (some .int) :: ([.fieldLink RX1 70 "DriftGrinders$Grinder" "second" "I", .methodLink RX1 231 yX0_coolingsTo, .instanceMethod yX0_coolingsTo, .selects RX0 yX0_coolingsTo yX0_coolingsTo, .initialized RX0, .code yX0_coolingsTo cX0_coolingsTo 4 (some .int), .fieldLink RX0 15 "DriftGrinders$Burr" "warmth" "I", .static yX7_fallOf, .initialized RX7, .code yX7_fallOf cX7_fallOf 1 (some .int)] ++ wsX10 ++ wsX00)
def wsX1_tellSetting : List Cond := .code yX1_tellSetting cX1_tellSetting 2 (some .int) :: ([.fieldLink RX1 47 "DriftGrinders$Grinder" "settings" "[I", .constant RX1 93 (-1000001)] ++ wsX10)
def wsX1_tell : List Cond := .code yX1_tell cX1_tell 2 (some .int) :: ([.fieldLink RX1 70 "DriftGrinders$Grinder" "second" "I", .fieldLink RX1 74 "DriftGrinders$Grinder" "filled" "I", .fieldLink RX1 77 "DriftGrinders$Grinder" "ground" "I", .fieldLink RX1 80 "DriftGrinders$Grinder" "brewed" "I", .fieldLink RX1 83 "DriftGrinders$Grinder" "purged" "I", .fieldLink RX1 12 "DriftGrinders$Grinder" "hopper" "LDriftGrinders$Hopper;", .fieldLink RX1 33 "DriftGrinders$Grinder" "chute" "LDriftGrinders$Row;", .fieldLink RX1 37 "DriftGrinders$Grinder" "basket" "LDriftGrinders$Row;", .fieldLink RX1 43 "DriftGrinders$Grinder" "shots" "LDriftGrinders$Shots;", .fieldLink RX1 86 "DriftGrinders$Grinder" "shotsNearTarget" "I", .methodLink RX1 103 yX3_amount, .instanceMethod yX3_amount, .selects RX3 yX3_amount yX3_amount, .initialized RX3, .code yX3_amount cX3_amount 1 (some .int), .fieldLink RX3 14 "DriftGrinders$Hopper" "lots" "LDriftGrinders$Row;", .methodLink RX1 237 yX1_tellSetting, .instanceMethod yX1_tellSetting, .selects RX1 yX1_tellSetting yX1_tellSetting, .initialized RX1, .code yX1_tellSetting cX1_tellSetting 2 (some .int), .fieldLink RX1 47 "DriftGrinders$Grinder" "settings" "[I", .constant RX1 93 (-1000001)] ++ wsX10 ++ wsX50 ++ wsX60 ++ wsX30)
def wsX2_init_r1 : List Cond := [Cond.methodLink RX2 3 objectInit, Cond.instanceMethod objectInit, Cond.code objectInit ⟨#[0xb1]⟩ 1 none, Cond.classLink RX2 9 RX1, Cond.instantiable RX1 13, Cond.initialized RX1, Cond.fieldLink RX2 12 "DriftGrinders$History" "latest" "LDriftGrinders$Grinder;", Cond.fieldLink RX2 18 "DriftGrinders$History" "second" "LDriftGrinders$Grinder;", Cond.fieldLink RX2 21 "DriftGrinders$History" "third" "LDriftGrinders$Grinder;", Cond.fieldLink RX2 24 "DriftGrinders$History" "oldest" "LDriftGrinders$Grinder;", Cond.instanceMethod yX1_init, Cond.code yX1_init cX1_init 1 none, Cond.methodLink RX1 3 objectInit, Cond.classLink RX1 9 RX3, Cond.instantiable RX3 1, Cond.initialized RX3, Cond.fieldLink RX1 12 "DriftGrinders$Grinder" "hopper" "LDriftGrinders$Hopper;", Cond.classLink RX1 18 RX0, Cond.instantiable RX0 4, Cond.initialized RX0, Cond.fieldLink RX1 21 "DriftGrinders$Grinder" "burr0" "LDriftGrinders$Burr;", Cond.fieldLink RX1 25 "DriftGrinders$Grinder" "burr1" "LDriftGrinders$Burr;", Cond.classLink RX1 28 RX5, Cond.instantiable RX5 4]
def wsX2_init_r2 : List Cond := [Cond.initialized RX5, Cond.fieldLink RX1 33 "DriftGrinders$Grinder" "chute" "LDriftGrinders$Row;", Cond.fieldLink RX1 37 "DriftGrinders$Grinder" "basket" "LDriftGrinders$Row;", Cond.classLink RX1 40 RX6, Cond.instantiable RX6 3, Cond.initialized RX6, Cond.fieldLink RX1 43 "DriftGrinders$Grinder" "shots" "LDriftGrinders$Shots;", Cond.arrayClass .int, Cond.fieldLink RX1 47 "DriftGrinders$Grinder" "settings" "[I", Cond.instanceMethod yX3_init, Cond.code yX3_init cX3_init 1 none, Cond.methodLink RX3 3 objectInit, Cond.classLink RX3 9 RX5, Cond.fieldLink RX3 14 "DriftGrinders$Hopper" "lots" "LDriftGrinders$Row;", Cond.methodLink RX3 11 yX5_init, Cond.instanceMethod yX5_init, Cond.code yX5_init cX5_init 2 none, Cond.methodLink RX5 1 objectInit, Cond.fieldLink RX5 7 "DriftGrinders$Row" "amounts" "[I", Cond.fieldLink RX5 13 "DriftGrinders$Row" "marks" "[I", Cond.instanceMethod yX0_init, Cond.code yX0_init cX0_init 1 none, Cond.methodLink RX0 3 objectInit, Cond.fieldLink RX0 9 "DriftGrinders$Burr" "dial" "I"]
def wsX2_init_r3 : List Cond := [Cond.methodLink RX1 30 yX5_init, Cond.instanceMethod yX6_init, Cond.code yX6_init cX6_init 1 none, Cond.methodLink RX6 3 objectInit, Cond.fieldLink RX6 11 "DriftGrinders$Shots" "facts" "[I"]
def wsX2_init : List Cond := .code yX2_init cX2_init 1 none :: ((wsX2_init_r1 ++ (wsX2_init_r2 ++ wsX2_init_r3)) ++ wsX10 ++ wsX20 ++ wsX30 ++ wsX00 ++ wsX50 ++ wsX60)
def wsX2_add : List Cond := .code yX2_add cX2_add 3 (some (.object "DriftGrinders$Grinder")) :: ([.fieldLink RX2 24 "DriftGrinders$History" "oldest" "LDriftGrinders$Grinder;", .fieldLink RX2 21 "DriftGrinders$History" "third" "LDriftGrinders$Grinder;", .fieldLink RX2 18 "DriftGrinders$History" "second" "LDriftGrinders$Grinder;", .fieldLink RX2 12 "DriftGrinders$History" "latest" "LDriftGrinders$Grinder;", .fieldLink RX2 27 "DriftGrinders$History" "states" "I", .methodLink RX2 31 Lib.Math.min.name, .static Lib.Math.min.name, .initialized "java/lang/Math", .code Lib.Math.min.name Lib.Math.min.code 2 (some .int)] ++ wsX20)
def wsX2_takeLatest : List Cond := .code yX2_takeLatest cX2_takeLatest 3 (some (.object "DriftGrinders$Grinder")) :: ([.fieldLink RX2 12 "DriftGrinders$History" "latest" "LDriftGrinders$Grinder;", .fieldLink RX2 18 "DriftGrinders$History" "second" "LDriftGrinders$Grinder;", .fieldLink RX2 21 "DriftGrinders$History" "third" "LDriftGrinders$Grinder;", .fieldLink RX2 24 "DriftGrinders$History" "oldest" "LDriftGrinders$Grinder;", .fieldLink RX2 27 "DriftGrinders$History" "states" "I", .methodLink RX2 37 Lib.Math.max.name, .static Lib.Math.max.name, .initialized "java/lang/Math", .code Lib.Math.max.name Lib.Math.max.code 2 (some .int)] ++ wsX20)
def wsX3_tell : List Cond := .code yX3_tell cX3_tell 3 (some .int) :: ([.fieldLink RX3 14 "DriftGrinders$Hopper" "lots" "LDriftGrinders$Row;", .constant RX3 54 (-1000004), .methodLink RX3 35 yX5_markAt, .instanceMethod yX5_markAt, .selects RX5 yX5_markAt yX5_markAt, .initialized RX5, .code yX5_markAt cX5_markAt 2 (some .int), .fieldLink RX5 16 "DriftGrinders$Row" "length" "I", .fieldLink RX5 13 "DriftGrinders$Row" "marks" "[I", .methodLink RX3 55 yX5_amountAt, .instanceMethod yX5_amountAt, .selects RX5 yX5_amountAt yX5_amountAt, .code yX5_amountAt cX5_amountAt 2 (some .int), .fieldLink RX5 7 "DriftGrinders$Row" "amounts" "[I"] ++ wsX30 ++ wsX50)
def wsX4_init : List Cond := .code yX4_init cX4_init 1 none :: ([.methodLink RX4 3 objectInit, .instanceMethod objectInit, .code objectInit ⟨#[0xb1]⟩ 1 none, .arrayClass .char, .fieldLink RX4 9 "DriftGrinders$Orders" "signs" "[C"] ++ wsX40)
def wsX4_append : List Cond := .code yX4_append cX4_append 2 (some .int) :: ([.fieldLink RX4 15 "DriftGrinders$Orders" "length" "I", .constant RX4 19 (-1000003), .fieldLink RX4 9 "DriftGrinders$Orders" "signs" "[C"] ++ wsX40)
def wsX4_hasFault : List Cond := .code yX4_hasFault cX4_hasFault 1 (some .boolean) :: ([.fieldLink RX4 20 "DriftGrinders$Orders" "faultReason" "I"] ++ wsX40)
def wsX4_tellFault : List Cond := .code yX4_tellFault cX4_tellFault 2 (some .int) :: ([.constant RX4 27 (-1000004), .fieldLink RX4 28 "DriftGrinders$Orders" "faultPosition" "I", .fieldLink RX4 20 "DriftGrinders$Orders" "faultReason" "I", .fieldLink RX4 31 "DriftGrinders$Orders" "faultCause" "I", .methodLink RX4 23 yX4_hasFault, .instanceMethod yX4_hasFault, .selects RX4 yX4_hasFault yX4_hasFault, .initialized RX4, .code yX4_hasFault cX4_hasFault 1 (some .boolean)] ++ wsX40)
def wsX4_signHere : List Cond := .code yX4_signHere cX4_signHere 1 (some .char) :: ([.fieldLink RX4 34 "DriftGrinders$Orders" "at" "I", .fieldLink RX4 15 "DriftGrinders$Orders" "length" "I", .fieldLink RX4 9 "DriftGrinders$Orders" "signs" "[C"] ++ wsX40)
def wsX4_isDigit : List Cond := .code yX4_isDigit cX4_isDigit 1 (some .boolean) :: ([])
def wsX4_readNumber : List Cond := .code yX4_readNumber cX4_readNumber 3 (some .int) :: ([.methodLink RX4 82 Lib.Math.max.name, .static Lib.Math.max.name, .initialized "java/lang/Math", .code Lib.Math.max.name Lib.Math.max.code 2 (some .int), .fieldLink RX4 34 "DriftGrinders$Orders" "at" "I", .methodLink RX4 51 yX4_signHere, .instanceMethod yX4_signHere, .selects RX4 yX4_signHere yX4_signHere, .initialized RX4, .code yX4_signHere cX4_signHere 1 (some .char), .fieldLink RX4 15 "DriftGrinders$Orders" "length" "I", .fieldLink RX4 9 "DriftGrinders$Orders" "signs" "[C", .methodLink RX4 79 yX4_isDigit, .static yX4_isDigit, .code yX4_isDigit cX4_isDigit 1 (some .boolean)] ++ wsX40)
def wsX4_readFirstNumber : List Cond := .code yX4_readFirstNumber cX4_readFirstNumber 1 (some .boolean) :: ([.fieldLink RX4 73 "DriftGrinders$Orders" "firstNumber" "I", .methodLink RX4 69 yX4_readNumber, .instanceMethod yX4_readNumber, .selects RX4 yX4_readNumber yX4_readNumber, .initialized RX4, .code yX4_readNumber cX4_readNumber 3 (some .int), .methodLink RX4 82 Lib.Math.max.name, .static Lib.Math.max.name, .initialized "java/lang/Math", .code Lib.Math.max.name Lib.Math.max.code 2 (some .int), .fieldLink RX4 34 "DriftGrinders$Orders" "at" "I", .methodLink RX4 51 yX4_signHere, .instanceMethod yX4_signHere, .selects RX4 yX4_signHere yX4_signHere, .code yX4_signHere cX4_signHere 1 (some .char), .fieldLink RX4 15 "DriftGrinders$Orders" "length" "I", .fieldLink RX4 9 "DriftGrinders$Orders" "signs" "[C", .methodLink RX4 79 yX4_isDigit, .static yX4_isDigit, .code yX4_isDigit cX4_isDigit 1 (some .boolean)] ++ wsX40)
def wsX4_passSign : List Cond := .code yX4_passSign cX4_passSign 2 (some .boolean) :: ([.fieldLink RX4 34 "DriftGrinders$Orders" "at" "I", .methodLink RX4 51 yX4_signHere, .instanceMethod yX4_signHere, .selects RX4 yX4_signHere yX4_signHere, .initialized RX4, .code yX4_signHere cX4_signHere 1 (some .char), .fieldLink RX4 15 "DriftGrinders$Orders" "length" "I", .fieldLink RX4 9 "DriftGrinders$Orders" "signs" "[C"] ++ wsX40)
def wsX4_readSecondNumber : List Cond := .code yX4_readSecondNumber cX4_readSecondNumber 1 (some .boolean) :: ([.fieldLink RX4 76 "DriftGrinders$Orders" "secondNumber" "I", .methodLink RX4 69 yX4_readNumber, .instanceMethod yX4_readNumber, .selects RX4 yX4_readNumber yX4_readNumber, .initialized RX4, .code yX4_readNumber cX4_readNumber 3 (some .int), .methodLink RX4 82 Lib.Math.max.name, .static Lib.Math.max.name, .initialized "java/lang/Math", .code Lib.Math.max.name Lib.Math.max.code 2 (some .int), .fieldLink RX4 34 "DriftGrinders$Orders" "at" "I", .methodLink RX4 51 yX4_signHere, .instanceMethod yX4_signHere, .selects RX4 yX4_signHere yX4_signHere, .code yX4_signHere cX4_signHere 1 (some .char), .fieldLink RX4 15 "DriftGrinders$Orders" "length" "I", .fieldLink RX4 9 "DriftGrinders$Orders" "signs" "[C", .methodLink RX4 79 yX4_isDigit, .static yX4_isDigit, .code yX4_isDigit cX4_isDigit 1 (some .boolean)] ++ wsX40)
def wsX4_readOrder_r1 : List Cond := [Cond.fieldLink RX4 55 "DriftGrinders$Orders" "letter" "C", Cond.fieldLink RX4 34 "DriftGrinders$Orders" "at" "I", Cond.methodLink RX4 51 yX4_signHere, Cond.instanceMethod yX4_signHere, Cond.selects RX4 yX4_signHere yX4_signHere, Cond.initialized RX4, Cond.code yX4_signHere cX4_signHere 1 (some .char), Cond.fieldLink RX4 15 "DriftGrinders$Orders" "length" "I", Cond.fieldLink RX4 9 "DriftGrinders$Orders" "signs" "[C", Cond.methodLink RX4 59 yX4_readFirstNumber, Cond.instanceMethod yX4_readFirstNumber, Cond.selects RX4 yX4_readFirstNumber yX4_readFirstNumber, Cond.code yX4_readFirstNumber cX4_readFirstNumber 1 (some .boolean), Cond.fieldLink RX4 73 "DriftGrinders$Orders" "firstNumber" "I", Cond.methodLink RX4 69 yX4_readNumber, Cond.instanceMethod yX4_readNumber, Cond.selects RX4 yX4_readNumber yX4_readNumber, Cond.code yX4_readNumber cX4_readNumber 3 (some .int), Cond.methodLink RX4 82 Lib.Math.max.name, Cond.static Lib.Math.max.name, Cond.initialized "java/lang/Math", Cond.code Lib.Math.max.name Lib.Math.max.code 2 (some .int), Cond.methodLink RX4 79 yX4_isDigit, Cond.static yX4_isDigit]
def wsX4_readOrder_r2 : List Cond := [Cond.code yX4_isDigit cX4_isDigit 1 (some .boolean), Cond.methodLink RX4 62 yX4_passSign, Cond.instanceMethod yX4_passSign, Cond.selects RX4 yX4_passSign yX4_passSign, Cond.code yX4_passSign cX4_passSign 2 (some .boolean), Cond.methodLink RX4 66 yX4_readSecondNumber, Cond.instanceMethod yX4_readSecondNumber, Cond.selects RX4 yX4_readSecondNumber yX4_readSecondNumber, Cond.code yX4_readSecondNumber cX4_readSecondNumber 1 (some .boolean), Cond.fieldLink RX4 76 "DriftGrinders$Orders" "secondNumber" "I"]
def wsX4_readOrder : List Cond := .code yX4_readOrder cX4_readOrder 1 (some .boolean) :: ((wsX4_readOrder_r1 ++ wsX4_readOrder_r2) ++ wsX40)
def wsX4_blame : List Cond := .code yX4_blame cX4_blame 4 none :: ([.fieldLink RX4 28 "DriftGrinders$Orders" "faultPosition" "I", .fieldLink RX4 20 "DriftGrinders$Orders" "faultReason" "I", .fieldLink RX4 31 "DriftGrinders$Orders" "faultCause" "I"] ++ wsX40)
def wsX4_doOrderOn_r1 : List Cond := [Cond.fieldLink RX4 55 "DriftGrinders$Orders" "letter" "C", Cond.fieldLink RX4 73 "DriftGrinders$Orders" "firstNumber" "I", Cond.fieldLink RX4 76 "DriftGrinders$Orders" "secondNumber" "I", Cond.methodLink RX4 88 yX1_fillIn, Cond.instanceMethod yX1_fillIn, Cond.selects RX1 yX1_fillIn yX1_fillIn, Cond.initialized RX1, Cond.code yX1_fillIn cX1_fillIn 3 (some .int), Cond.constant RX1 93 (-1000001), Cond.fieldLink RX1 12 "DriftGrinders$Grinder" "hopper" "LDriftGrinders$Hopper;", Cond.constant RX1 98 (-1000003), Cond.fieldLink RX1 74 "DriftGrinders$Grinder" "filled" "I", Cond.static yX7_isZeroOrOne, Cond.initialized RX7, Cond.code yX7_isZeroOrOne cX7_isZeroOrOne 1 (some .boolean), Cond.methodLink RX1 94 yX3_hasRoomFor, Cond.instanceMethod yX3_hasRoomFor, Cond.selects RX3 yX3_hasRoomFor yX3_hasRoomFor, Cond.initialized RX3, Cond.code yX3_hasRoomFor cX3_hasRoomFor 3 (some .boolean), Cond.fieldLink RX3 14 "DriftGrinders$Hopper" "lots" "LDriftGrinders$Row;", Cond.methodLink RX3 31 yX3_endsWith, Cond.instanceMethod yX3_endsWith, Cond.selects RX3 yX3_endsWith yX3_endsWith]
def wsX4_doOrderOn_r2 : List Cond := [Cond.code yX3_endsWith cX3_endsWith 2 (some .boolean), Cond.methodLink RX3 35 yX5_markAt, Cond.instanceMethod yX5_markAt, Cond.selects RX5 yX5_markAt yX5_markAt, Cond.initialized RX5, Cond.code yX5_markAt cX5_markAt 2 (some .int), Cond.fieldLink RX5 16 "DriftGrinders$Row" "length" "I", Cond.fieldLink RX5 13 "DriftGrinders$Row" "marks" "[I", Cond.methodLink RX1 99 yX3_pourIn, Cond.instanceMethod yX3_pourIn, Cond.selects RX3 yX3_pourIn yX3_pourIn, Cond.code yX3_pourIn cX3_pourIn 3 none, Cond.methodLink RX3 39 yX5_addToLast, Cond.instanceMethod yX5_addToLast, Cond.selects RX5 yX5_addToLast yX5_addToLast, Cond.code yX5_addToLast cX5_addToLast 2 none, Cond.fieldLink RX5 7 "DriftGrinders$Row" "amounts" "[I", Cond.fieldLink RX5 26 "DriftGrinders$Row" "total" "I", Cond.methodLink RX3 42 yX5_append, Cond.instanceMethod yX5_append, Cond.selects RX5 yX5_append yX5_append, Cond.code yX5_append cX5_append 3 none, Cond.methodLink RX1 103 yX3_amount, Cond.instanceMethod yX3_amount]
def wsX4_doOrderOn_r3 : List Cond := [Cond.selects RX3 yX3_amount yX3_amount, Cond.code yX3_amount cX3_amount 1 (some .int), Cond.methodLink RX4 93 yX1_grindBy, Cond.instanceMethod yX1_grindBy, Cond.selects RX1 yX1_grindBy yX1_grindBy, Cond.code yX1_grindBy cX1_grindBy 5 (some .int), Cond.constant RX1 107 (-1000002), Cond.fieldLink RX1 33 "DriftGrinders$Grinder" "chute" "LDriftGrinders$Row;", Cond.fieldLink RX1 47 "DriftGrinders$Grinder" "settings" "[I", Cond.methodLink RX1 111 Lib.Math.max.name, Cond.static Lib.Math.max.name, Cond.initialized "java/lang/Math", Cond.code Lib.Math.max.name Lib.Math.max.code 2 (some .int), Cond.fieldLink RX1 37 "DriftGrinders$Grinder" "basket" "LDriftGrinders$Row;", Cond.fieldLink RX1 77 "DriftGrinders$Grinder" "ground" "I", Cond.methodLink RX1 117 yX1_burrNumbered, Cond.instanceMethod yX1_burrNumbered, Cond.selects RX1 yX1_burrNumbered yX1_burrNumbered, Cond.code yX1_burrNumbered cX1_burrNumbered 2 (some (.object "DriftGrinders$Burr")), Cond.fieldLink RX1 21 "DriftGrinders$Grinder" "burr0" "LDriftGrinders$Burr;", Cond.fieldLink RX1 25 "DriftGrinders$Grinder" "burr1" "LDriftGrinders$Burr;", Cond.methodLink RX1 121 yX0_gap, Cond.instanceMethod yX0_gap, Cond.selects RX0 yX0_gap yX0_gap]
def wsX4_doOrderOn_r4 : List Cond := [Cond.initialized RX0, Cond.code yX0_gap cX0_gap 1 (some .int), Cond.fieldLink RX0 9 "DriftGrinders$Burr" "dial" "I", Cond.methodLink RX0 24 yX0_gapAt, Cond.instanceMethod yX0_gapAt, Cond.selects RX0 yX0_gapAt yX0_gapAt, Cond.code yX0_gapAt cX0_gapAt 2 (some .int), Cond.fieldLink RX0 15 "DriftGrinders$Burr" "warmth" "I", Cond.methodLink RX0 28 Lib.Math.max.name, Cond.methodLink RX1 124 yX3_letOut, Cond.instanceMethod yX3_letOut, Cond.selects RX3 yX3_letOut yX3_letOut, Cond.code yX3_letOut cX3_letOut 5 none, Cond.static yX7_markOf, Cond.code yX7_markOf cX7_markOf 3 (some .int), Cond.methodLink RX3 50 yX5_letOut, Cond.instanceMethod yX5_letOut, Cond.selects RX5 yX5_letOut yX5_letOut, Cond.code yX5_letOut cX5_letOut 8 none, Cond.methodLink RX5 20 Lib.Math.min.name, Cond.static Lib.Math.min.name, Cond.code Lib.Math.min.name Lib.Math.min.code 2 (some .int), Cond.methodLink RX5 35 yX5_append, Cond.methodLink RX5 39 yX5_dropFirst]
def wsX4_doOrderOn_r5 : List Cond := [Cond.instanceMethod yX5_dropFirst, Cond.selects RX5 yX5_dropFirst yX5_dropFirst, Cond.code yX5_dropFirst cX5_dropFirst 2 none, Cond.methodLink RX5 29 arraycopyName, Cond.native arraycopyName, Cond.static arraycopyName, Cond.initialized "java/lang/System", Cond.methodLink RX1 128 yX0_warmByGrinding, Cond.instanceMethod yX0_warmByGrinding, Cond.selects RX0 yX0_warmByGrinding yX0_warmByGrinding, Cond.code yX0_warmByGrinding cX0_warmByGrinding 2 none, Cond.methodLink RX0 34 Lib.Math.min.name, Cond.fieldLink RX0 18 "DriftGrinders$Burr" "ground" "I", Cond.methodLink RX1 131 yX5_letOut, Cond.methodLink RX1 134 yX1_passSeconds, Cond.instanceMethod yX1_passSeconds, Cond.selects RX1 yX1_passSeconds yX1_passSeconds, Cond.code yX1_passSeconds cX1_passSeconds 3 none, Cond.fieldLink RX1 70 "DriftGrinders$Grinder" "second" "I", Cond.methodLink RX1 143 yX0_cool, Cond.instanceMethod yX0_cool, Cond.selects RX0 yX0_cool yX0_cool, Cond.code yX0_cool cX0_cool 3 none, Cond.static yX7_fallOf]
def wsX4_doOrderOn_r6 : List Cond := [Cond.code yX7_fallOf cX7_fallOf 1 (some .int), Cond.methodLink RX4 96 yX1_turnDial, Cond.instanceMethod yX1_turnDial, Cond.selects RX1 yX1_turnDial yX1_turnDial, Cond.code yX1_turnDial cX1_turnDial 5 (some .int), Cond.methodLink RX4 99 yX1_letPass, Cond.instanceMethod yX1_letPass, Cond.selects RX1 yX1_letPass yX1_letPass, Cond.code yX1_letPass cX1_letPass 3 (some .int), Cond.methodLink RX4 103 yX1_makeShot, Cond.instanceMethod yX1_makeShot, Cond.selects RX1 yX1_makeShot yX1_makeShot, Cond.code yX1_makeShot cX1_makeShot 4 (some .int), Cond.fieldLink RX1 43 "DriftGrinders$Grinder" "shots" "LDriftGrinders$Shots;", Cond.fieldLink RX1 80 "DriftGrinders$Grinder" "brewed" "I", Cond.methodLink RX1 146 yX1_timeOfBasket, Cond.instanceMethod yX1_timeOfBasket, Cond.selects RX1 yX1_timeOfBasket yX1_timeOfBasket, Cond.code yX1_timeOfBasket cX1_timeOfBasket 3 (some .int), Cond.methodLink RX1 173 yX5_amountAt, Cond.instanceMethod yX5_amountAt, Cond.selects RX5 yX5_amountAt yX5_amountAt, Cond.code yX5_amountAt cX5_amountAt 2 (some .int), Cond.methodLink RX1 176 yX5_markAt]
def wsX4_doOrderOn_r7 : List Cond := [Cond.methodLink RX1 179 yX1_flowOfMark, Cond.instanceMethod yX1_flowOfMark, Cond.selects RX1 yX1_flowOfMark yX1_flowOfMark, Cond.code yX1_flowOfMark cX1_flowOfMark 2 (some .int), Cond.static yX7_kindOfMark, Cond.code yX7_kindOfMark cX7_kindOfMark 1 (some .int), Cond.methodLink RX1 185 yX1_hardnessOf, Cond.instanceMethod yX1_hardnessOf, Cond.selects RX1 yX1_hardnessOf yX1_hardnessOf, Cond.code yX1_hardnessOf cX1_hardnessOf 2 (some .int), Cond.static yX7_gapOfMark, Cond.code yX7_gapOfMark cX7_gapOfMark 1 (some .int), Cond.static yX7_flowOf, Cond.code yX7_flowOf cX7_flowOf 2 (some .int), Cond.methodLink RX1 149 yX5_isMostly, Cond.instanceMethod yX5_isMostly, Cond.selects RX5 yX5_isMostly yX5_isMostly, Cond.code yX5_isMostly cX5_isMostly 4 (some .boolean), Cond.methodLink RX1 155 yX6_add, Cond.instanceMethod yX6_add, Cond.selects RX6 yX6_add yX6_add, Cond.initialized RX6, Cond.code yX6_add cX6_add 7 none, Cond.fieldLink RX6 11 "DriftGrinders$Shots" "facts" "[I"]
def wsX4_doOrderOn_r8 : List Cond := [Cond.methodLink RX6 15 arraycopyName, Cond.fieldLink RX6 25 "DriftGrinders$Shots" "made" "I", Cond.fieldLink RX6 21 "DriftGrinders$Shots" "kept" "I", Cond.methodLink RX6 28 Lib.Math.min.name, Cond.methodLink RX1 159 yX5_clear, Cond.instanceMethod yX5_clear, Cond.selects RX5 yX5_clear yX5_clear, Cond.code yX5_clear cX5_clear 1 none, Cond.methodLink RX1 162 yX1_judge, Cond.instanceMethod yX1_judge, Cond.selects RX1 yX1_judge yX1_judge, Cond.code yX1_judge cX1_judge 3 none, Cond.methodLink RX1 166 Lib.Math.abs.name, Cond.static Lib.Math.abs.name, Cond.code Lib.Math.abs.name Lib.Math.abs.code 1 (some .int), Cond.fieldLink RX1 86 "DriftGrinders$Grinder" "shotsNearTarget" "I", Cond.methodLink RX1 170 yX0_correctBy, Cond.instanceMethod yX0_correctBy, Cond.selects RX0 yX0_correctBy yX0_correctBy, Cond.code yX0_correctBy cX0_correctBy 4 none, Cond.fieldLink RX0 21 "DriftGrinders$Burr" "corrections" "I", Cond.methodLink RX4 106 yX1_emptyChute, Cond.instanceMethod yX1_emptyChute, Cond.selects RX1 yX1_emptyChute yX1_emptyChute]
def wsX4_doOrderOn_r9 : List Cond := [Cond.code yX1_emptyChute cX1_emptyChute 2 (some .int), Cond.fieldLink RX1 83 "DriftGrinders$Grinder" "purged" "I"]
def wsX4_doOrderOn : List Cond := .code yX4_doOrderOn cX4_doOrderOn 2 (some .int) :: ((wsX4_doOrderOn_r1 ++ (wsX4_doOrderOn_r2 ++ (wsX4_doOrderOn_r3 ++ (wsX4_doOrderOn_r4 ++ (wsX4_doOrderOn_r5 ++ (wsX4_doOrderOn_r6 ++ (wsX4_doOrderOn_r7 ++ (wsX4_doOrderOn_r8 ++ wsX4_doOrderOn_r9)))))))) ++ wsX40 ++ wsX10 ++ wsX30 ++ wsX50 ++ wsX00 ++ wsX60)
def wsX4_doAllOn_r1 : List Cond := [Cond.fieldLink RX4 20 "DriftGrinders$Orders" "faultReason" "I", Cond.fieldLink RX4 34 "DriftGrinders$Orders" "at" "I", Cond.fieldLink RX4 37 "DriftGrinders$Orders" "ordersDone" "I", Cond.fieldLink RX4 15 "DriftGrinders$Orders" "length" "I", Cond.methodLink RX4 40 yX4_readOrder, Cond.instanceMethod yX4_readOrder, Cond.selects RX4 yX4_readOrder yX4_readOrder, Cond.initialized RX4, Cond.code yX4_readOrder cX4_readOrder 1 (some .boolean), Cond.fieldLink RX4 55 "DriftGrinders$Orders" "letter" "C", Cond.methodLink RX4 51 yX4_signHere, Cond.instanceMethod yX4_signHere, Cond.selects RX4 yX4_signHere yX4_signHere, Cond.code yX4_signHere cX4_signHere 1 (some .char), Cond.fieldLink RX4 9 "DriftGrinders$Orders" "signs" "[C", Cond.methodLink RX4 59 yX4_readFirstNumber, Cond.instanceMethod yX4_readFirstNumber, Cond.selects RX4 yX4_readFirstNumber yX4_readFirstNumber, Cond.code yX4_readFirstNumber cX4_readFirstNumber 1 (some .boolean), Cond.fieldLink RX4 73 "DriftGrinders$Orders" "firstNumber" "I", Cond.methodLink RX4 69 yX4_readNumber, Cond.instanceMethod yX4_readNumber, Cond.selects RX4 yX4_readNumber yX4_readNumber, Cond.code yX4_readNumber cX4_readNumber 3 (some .int)]
def wsX4_doAllOn_r2 : List Cond := [Cond.methodLink RX4 82 Lib.Math.max.name, Cond.static Lib.Math.max.name, Cond.initialized "java/lang/Math", Cond.code Lib.Math.max.name Lib.Math.max.code 2 (some .int), Cond.methodLink RX4 79 yX4_isDigit, Cond.static yX4_isDigit, Cond.code yX4_isDigit cX4_isDigit 1 (some .boolean), Cond.methodLink RX4 62 yX4_passSign, Cond.instanceMethod yX4_passSign, Cond.selects RX4 yX4_passSign yX4_passSign, Cond.code yX4_passSign cX4_passSign 2 (some .boolean), Cond.methodLink RX4 66 yX4_readSecondNumber, Cond.instanceMethod yX4_readSecondNumber, Cond.selects RX4 yX4_readSecondNumber yX4_readSecondNumber, Cond.code yX4_readSecondNumber cX4_readSecondNumber 1 (some .boolean), Cond.fieldLink RX4 76 "DriftGrinders$Orders" "secondNumber" "I", Cond.methodLink RX4 43 yX4_blame, Cond.instanceMethod yX4_blame, Cond.selects RX4 yX4_blame yX4_blame, Cond.code yX4_blame cX4_blame 4 none, Cond.fieldLink RX4 28 "DriftGrinders$Orders" "faultPosition" "I", Cond.fieldLink RX4 31 "DriftGrinders$Orders" "faultCause" "I", Cond.methodLink RX4 47 yX4_doOrderOn, Cond.instanceMethod yX4_doOrderOn]
def wsX4_doAllOn_r3 : List Cond := [Cond.selects RX4 yX4_doOrderOn yX4_doOrderOn, Cond.code yX4_doOrderOn cX4_doOrderOn 2 (some .int), Cond.methodLink RX4 88 yX1_fillIn, Cond.instanceMethod yX1_fillIn, Cond.selects RX1 yX1_fillIn yX1_fillIn, Cond.initialized RX1, Cond.code yX1_fillIn cX1_fillIn 3 (some .int), Cond.constant RX1 93 (-1000001), Cond.fieldLink RX1 12 "DriftGrinders$Grinder" "hopper" "LDriftGrinders$Hopper;", Cond.constant RX1 98 (-1000003), Cond.fieldLink RX1 74 "DriftGrinders$Grinder" "filled" "I", Cond.static yX7_isZeroOrOne, Cond.initialized RX7, Cond.code yX7_isZeroOrOne cX7_isZeroOrOne 1 (some .boolean), Cond.methodLink RX1 94 yX3_hasRoomFor, Cond.instanceMethod yX3_hasRoomFor, Cond.selects RX3 yX3_hasRoomFor yX3_hasRoomFor, Cond.initialized RX3, Cond.code yX3_hasRoomFor cX3_hasRoomFor 3 (some .boolean), Cond.fieldLink RX3 14 "DriftGrinders$Hopper" "lots" "LDriftGrinders$Row;", Cond.methodLink RX3 31 yX3_endsWith, Cond.instanceMethod yX3_endsWith, Cond.selects RX3 yX3_endsWith yX3_endsWith, Cond.code yX3_endsWith cX3_endsWith 2 (some .boolean)]
def wsX4_doAllOn_r4 : List Cond := [Cond.methodLink RX3 35 yX5_markAt, Cond.instanceMethod yX5_markAt, Cond.selects RX5 yX5_markAt yX5_markAt, Cond.initialized RX5, Cond.code yX5_markAt cX5_markAt 2 (some .int), Cond.fieldLink RX5 16 "DriftGrinders$Row" "length" "I", Cond.fieldLink RX5 13 "DriftGrinders$Row" "marks" "[I", Cond.methodLink RX1 99 yX3_pourIn, Cond.instanceMethod yX3_pourIn, Cond.selects RX3 yX3_pourIn yX3_pourIn, Cond.code yX3_pourIn cX3_pourIn 3 none, Cond.methodLink RX3 39 yX5_addToLast, Cond.instanceMethod yX5_addToLast, Cond.selects RX5 yX5_addToLast yX5_addToLast, Cond.code yX5_addToLast cX5_addToLast 2 none, Cond.fieldLink RX5 7 "DriftGrinders$Row" "amounts" "[I", Cond.fieldLink RX5 26 "DriftGrinders$Row" "total" "I", Cond.methodLink RX3 42 yX5_append, Cond.instanceMethod yX5_append, Cond.selects RX5 yX5_append yX5_append, Cond.code yX5_append cX5_append 3 none, Cond.methodLink RX1 103 yX3_amount, Cond.instanceMethod yX3_amount, Cond.selects RX3 yX3_amount yX3_amount]
def wsX4_doAllOn_r5 : List Cond := [Cond.code yX3_amount cX3_amount 1 (some .int), Cond.methodLink RX4 93 yX1_grindBy, Cond.instanceMethod yX1_grindBy, Cond.selects RX1 yX1_grindBy yX1_grindBy, Cond.code yX1_grindBy cX1_grindBy 5 (some .int), Cond.constant RX1 107 (-1000002), Cond.fieldLink RX1 33 "DriftGrinders$Grinder" "chute" "LDriftGrinders$Row;", Cond.fieldLink RX1 47 "DriftGrinders$Grinder" "settings" "[I", Cond.methodLink RX1 111 Lib.Math.max.name, Cond.fieldLink RX1 37 "DriftGrinders$Grinder" "basket" "LDriftGrinders$Row;", Cond.fieldLink RX1 77 "DriftGrinders$Grinder" "ground" "I", Cond.methodLink RX1 117 yX1_burrNumbered, Cond.instanceMethod yX1_burrNumbered, Cond.selects RX1 yX1_burrNumbered yX1_burrNumbered, Cond.code yX1_burrNumbered cX1_burrNumbered 2 (some (.object "DriftGrinders$Burr")), Cond.fieldLink RX1 21 "DriftGrinders$Grinder" "burr0" "LDriftGrinders$Burr;", Cond.fieldLink RX1 25 "DriftGrinders$Grinder" "burr1" "LDriftGrinders$Burr;", Cond.methodLink RX1 121 yX0_gap, Cond.instanceMethod yX0_gap, Cond.selects RX0 yX0_gap yX0_gap, Cond.initialized RX0, Cond.code yX0_gap cX0_gap 1 (some .int), Cond.fieldLink RX0 9 "DriftGrinders$Burr" "dial" "I", Cond.methodLink RX0 24 yX0_gapAt]
def wsX4_doAllOn_r6 : List Cond := [Cond.instanceMethod yX0_gapAt, Cond.selects RX0 yX0_gapAt yX0_gapAt, Cond.code yX0_gapAt cX0_gapAt 2 (some .int), Cond.fieldLink RX0 15 "DriftGrinders$Burr" "warmth" "I", Cond.methodLink RX0 28 Lib.Math.max.name, Cond.methodLink RX1 124 yX3_letOut, Cond.instanceMethod yX3_letOut, Cond.selects RX3 yX3_letOut yX3_letOut, Cond.code yX3_letOut cX3_letOut 5 none, Cond.static yX7_markOf, Cond.code yX7_markOf cX7_markOf 3 (some .int), Cond.methodLink RX3 50 yX5_letOut, Cond.instanceMethod yX5_letOut, Cond.selects RX5 yX5_letOut yX5_letOut, Cond.code yX5_letOut cX5_letOut 8 none, Cond.methodLink RX5 20 Lib.Math.min.name, Cond.static Lib.Math.min.name, Cond.code Lib.Math.min.name Lib.Math.min.code 2 (some .int), Cond.methodLink RX5 35 yX5_append, Cond.methodLink RX5 39 yX5_dropFirst, Cond.instanceMethod yX5_dropFirst, Cond.selects RX5 yX5_dropFirst yX5_dropFirst, Cond.code yX5_dropFirst cX5_dropFirst 2 none, Cond.methodLink RX5 29 arraycopyName]
def wsX4_doAllOn_r7 : List Cond := [Cond.native arraycopyName, Cond.static arraycopyName, Cond.initialized "java/lang/System", Cond.methodLink RX1 128 yX0_warmByGrinding, Cond.instanceMethod yX0_warmByGrinding, Cond.selects RX0 yX0_warmByGrinding yX0_warmByGrinding, Cond.code yX0_warmByGrinding cX0_warmByGrinding 2 none, Cond.methodLink RX0 34 Lib.Math.min.name, Cond.fieldLink RX0 18 "DriftGrinders$Burr" "ground" "I", Cond.methodLink RX1 131 yX5_letOut, Cond.methodLink RX1 134 yX1_passSeconds, Cond.instanceMethod yX1_passSeconds, Cond.selects RX1 yX1_passSeconds yX1_passSeconds, Cond.code yX1_passSeconds cX1_passSeconds 3 none, Cond.fieldLink RX1 70 "DriftGrinders$Grinder" "second" "I", Cond.methodLink RX1 143 yX0_cool, Cond.instanceMethod yX0_cool, Cond.selects RX0 yX0_cool yX0_cool, Cond.code yX0_cool cX0_cool 3 none, Cond.static yX7_fallOf, Cond.code yX7_fallOf cX7_fallOf 1 (some .int), Cond.methodLink RX4 96 yX1_turnDial, Cond.instanceMethod yX1_turnDial, Cond.selects RX1 yX1_turnDial yX1_turnDial]
def wsX4_doAllOn_r8 : List Cond := [Cond.code yX1_turnDial cX1_turnDial 5 (some .int), Cond.methodLink RX4 99 yX1_letPass, Cond.instanceMethod yX1_letPass, Cond.selects RX1 yX1_letPass yX1_letPass, Cond.code yX1_letPass cX1_letPass 3 (some .int), Cond.methodLink RX4 103 yX1_makeShot, Cond.instanceMethod yX1_makeShot, Cond.selects RX1 yX1_makeShot yX1_makeShot, Cond.code yX1_makeShot cX1_makeShot 4 (some .int), Cond.fieldLink RX1 43 "DriftGrinders$Grinder" "shots" "LDriftGrinders$Shots;", Cond.fieldLink RX1 80 "DriftGrinders$Grinder" "brewed" "I", Cond.methodLink RX1 146 yX1_timeOfBasket, Cond.instanceMethod yX1_timeOfBasket, Cond.selects RX1 yX1_timeOfBasket yX1_timeOfBasket, Cond.code yX1_timeOfBasket cX1_timeOfBasket 3 (some .int), Cond.methodLink RX1 173 yX5_amountAt, Cond.instanceMethod yX5_amountAt, Cond.selects RX5 yX5_amountAt yX5_amountAt, Cond.code yX5_amountAt cX5_amountAt 2 (some .int), Cond.methodLink RX1 176 yX5_markAt, Cond.methodLink RX1 179 yX1_flowOfMark, Cond.instanceMethod yX1_flowOfMark, Cond.selects RX1 yX1_flowOfMark yX1_flowOfMark, Cond.code yX1_flowOfMark cX1_flowOfMark 2 (some .int)]
def wsX4_doAllOn_r9 : List Cond := [Cond.static yX7_kindOfMark, Cond.code yX7_kindOfMark cX7_kindOfMark 1 (some .int), Cond.methodLink RX1 185 yX1_hardnessOf, Cond.instanceMethod yX1_hardnessOf, Cond.selects RX1 yX1_hardnessOf yX1_hardnessOf, Cond.code yX1_hardnessOf cX1_hardnessOf 2 (some .int), Cond.static yX7_gapOfMark, Cond.code yX7_gapOfMark cX7_gapOfMark 1 (some .int), Cond.static yX7_flowOf, Cond.code yX7_flowOf cX7_flowOf 2 (some .int), Cond.methodLink RX1 149 yX5_isMostly, Cond.instanceMethod yX5_isMostly, Cond.selects RX5 yX5_isMostly yX5_isMostly, Cond.code yX5_isMostly cX5_isMostly 4 (some .boolean), Cond.methodLink RX1 155 yX6_add, Cond.instanceMethod yX6_add, Cond.selects RX6 yX6_add yX6_add, Cond.initialized RX6, Cond.code yX6_add cX6_add 7 none, Cond.fieldLink RX6 11 "DriftGrinders$Shots" "facts" "[I", Cond.methodLink RX6 15 arraycopyName, Cond.fieldLink RX6 25 "DriftGrinders$Shots" "made" "I", Cond.fieldLink RX6 21 "DriftGrinders$Shots" "kept" "I", Cond.methodLink RX6 28 Lib.Math.min.name]
def wsX4_doAllOn_r10 : List Cond := [Cond.methodLink RX1 159 yX5_clear, Cond.instanceMethod yX5_clear, Cond.selects RX5 yX5_clear yX5_clear, Cond.code yX5_clear cX5_clear 1 none, Cond.methodLink RX1 162 yX1_judge, Cond.instanceMethod yX1_judge, Cond.selects RX1 yX1_judge yX1_judge, Cond.code yX1_judge cX1_judge 3 none, Cond.methodLink RX1 166 Lib.Math.abs.name, Cond.static Lib.Math.abs.name, Cond.code Lib.Math.abs.name Lib.Math.abs.code 1 (some .int), Cond.fieldLink RX1 86 "DriftGrinders$Grinder" "shotsNearTarget" "I", Cond.methodLink RX1 170 yX0_correctBy, Cond.instanceMethod yX0_correctBy, Cond.selects RX0 yX0_correctBy yX0_correctBy, Cond.code yX0_correctBy cX0_correctBy 4 none, Cond.fieldLink RX0 21 "DriftGrinders$Burr" "corrections" "I", Cond.methodLink RX4 106 yX1_emptyChute, Cond.instanceMethod yX1_emptyChute, Cond.selects RX1 yX1_emptyChute yX1_emptyChute, Cond.code yX1_emptyChute cX1_emptyChute 2 (some .int), Cond.fieldLink RX1 83 "DriftGrinders$Grinder" "purged" "I"]
def wsX4_doAllOn : List Cond := .code yX4_doAllOn cX4_doAllOn 4 none :: ((wsX4_doAllOn_r1 ++ (wsX4_doAllOn_r2 ++ (wsX4_doAllOn_r3 ++ (wsX4_doAllOn_r4 ++ (wsX4_doAllOn_r5 ++ (wsX4_doAllOn_r6 ++ (wsX4_doAllOn_r7 ++ (wsX4_doAllOn_r8 ++ (wsX4_doAllOn_r9 ++ wsX4_doAllOn_r10))))))))) ++ wsX40 ++ wsX10 ++ wsX30 ++ wsX50 ++ wsX00 ++ wsX60)
def wsX6_awayFrom : List Cond := .code yX6_awayFrom cX6_awayFrom 3 (some .int) :: ([.fieldLink RX6 11 "DriftGrinders$Shots" "facts" "[I", .methodLink RX6 38 Lib.Math.abs.name, .static Lib.Math.abs.name, .initialized "java/lang/Math", .code Lib.Math.abs.name Lib.Math.abs.code 1 (some .int)] ++ wsX60)
def wsX6_tell : List Cond := .code yX6_tell cX6_tell 4 (some .int) :: ([.fieldLink RX6 21 "DriftGrinders$Shots" "kept" "I", .constant RX6 34 (-1000004), .fieldLink RX6 11 "DriftGrinders$Shots" "facts" "[I", .methodLink RX6 35 yX6_awayFrom, .instanceMethod yX6_awayFrom, .selects RX6 yX6_awayFrom yX6_awayFrom, .initialized RX6, .code yX6_awayFrom cX6_awayFrom 3 (some .int), .methodLink RX6 38 Lib.Math.abs.name, .static Lib.Math.abs.name, .initialized "java/lang/Math", .code Lib.Math.abs.name Lib.Math.abs.code 1 (some .int)] ++ wsX60)
def wsX6_placeOf : List Cond := .code yX6_placeOf cX6_placeOf 7 (some .int) :: ([.fieldLink RX6 21 "DriftGrinders$Shots" "kept" "I", .methodLink RX6 35 yX6_awayFrom, .instanceMethod yX6_awayFrom, .selects RX6 yX6_awayFrom yX6_awayFrom, .initialized RX6, .code yX6_awayFrom cX6_awayFrom 3 (some .int), .fieldLink RX6 11 "DriftGrinders$Shots" "facts" "[I", .methodLink RX6 38 Lib.Math.abs.name, .static Lib.Math.abs.name, .initialized "java/lang/Math", .code Lib.Math.abs.name Lib.Math.abs.code 1 (some .int)] ++ wsX60)
def wsX6_numberAtPlace : List Cond := .code yX6_numberAtPlace cX6_numberAtPlace 4 (some .int) :: ([.fieldLink RX6 21 "DriftGrinders$Shots" "kept" "I", .fieldLink RX6 11 "DriftGrinders$Shots" "facts" "[I", .constant RX6 34 (-1000004), .methodLink RX6 42 yX6_placeOf, .instanceMethod yX6_placeOf, .selects RX6 yX6_placeOf yX6_placeOf, .initialized RX6, .code yX6_placeOf cX6_placeOf 7 (some .int), .methodLink RX6 35 yX6_awayFrom, .instanceMethod yX6_awayFrom, .selects RX6 yX6_awayFrom yX6_awayFrom, .code yX6_awayFrom cX6_awayFrom 3 (some .int), .methodLink RX6 38 Lib.Math.abs.name, .static Lib.Math.abs.name, .initialized "java/lang/Math", .code Lib.Math.abs.name Lib.Math.abs.code 1 (some .int)] ++ wsX60)
def wsX7_init_r1 : List Cond := [Cond.methodLink RX7 1 objectInit, Cond.instanceMethod objectInit, Cond.code objectInit ⟨#[0xb1]⟩ 1 none, Cond.classLink RX7 7 RX2, Cond.instantiable RX2 5, Cond.initialized RX2, Cond.fieldLink RX7 10 "DriftGrinders" "history" "LDriftGrinders$History;", Cond.classLink RX7 16 RX4, Cond.instantiable RX4 10, Cond.initialized RX4, Cond.fieldLink RX7 19 "DriftGrinders" "text" "LDriftGrinders$Orders;", Cond.classLink RX7 23 RX1, Cond.instantiable RX1 13, Cond.initialized RX1, Cond.fieldLink RX7 26 "DriftGrinders" "now" "LDriftGrinders$Grinder;", Cond.fieldLink RX7 30 "DriftGrinders" "spare" "LDriftGrinders$Grinder;", Cond.instanceMethod yX2_init, Cond.code yX2_init cX2_init 1 none, Cond.methodLink RX2 3 objectInit, Cond.classLink RX2 9 RX1, Cond.fieldLink RX2 12 "DriftGrinders$History" "latest" "LDriftGrinders$Grinder;", Cond.fieldLink RX2 18 "DriftGrinders$History" "second" "LDriftGrinders$Grinder;", Cond.fieldLink RX2 21 "DriftGrinders$History" "third" "LDriftGrinders$Grinder;", Cond.fieldLink RX2 24 "DriftGrinders$History" "oldest" "LDriftGrinders$Grinder;"]
def wsX7_init_r2 : List Cond := [Cond.instanceMethod yX1_init, Cond.code yX1_init cX1_init 1 none, Cond.methodLink RX1 3 objectInit, Cond.classLink RX1 9 RX3, Cond.instantiable RX3 1, Cond.initialized RX3, Cond.fieldLink RX1 12 "DriftGrinders$Grinder" "hopper" "LDriftGrinders$Hopper;", Cond.classLink RX1 18 RX0, Cond.instantiable RX0 4, Cond.initialized RX0, Cond.fieldLink RX1 21 "DriftGrinders$Grinder" "burr0" "LDriftGrinders$Burr;", Cond.fieldLink RX1 25 "DriftGrinders$Grinder" "burr1" "LDriftGrinders$Burr;", Cond.classLink RX1 28 RX5, Cond.instantiable RX5 4, Cond.initialized RX5, Cond.fieldLink RX1 33 "DriftGrinders$Grinder" "chute" "LDriftGrinders$Row;", Cond.fieldLink RX1 37 "DriftGrinders$Grinder" "basket" "LDriftGrinders$Row;", Cond.classLink RX1 40 RX6, Cond.instantiable RX6 3, Cond.initialized RX6, Cond.fieldLink RX1 43 "DriftGrinders$Grinder" "shots" "LDriftGrinders$Shots;", Cond.arrayClass .int, Cond.fieldLink RX1 47 "DriftGrinders$Grinder" "settings" "[I", Cond.instanceMethod yX3_init]
def wsX7_init_r3 : List Cond := [Cond.code yX3_init cX3_init 1 none, Cond.methodLink RX3 3 objectInit, Cond.classLink RX3 9 RX5, Cond.fieldLink RX3 14 "DriftGrinders$Hopper" "lots" "LDriftGrinders$Row;", Cond.methodLink RX3 11 yX5_init, Cond.instanceMethod yX5_init, Cond.code yX5_init cX5_init 2 none, Cond.methodLink RX5 1 objectInit, Cond.fieldLink RX5 7 "DriftGrinders$Row" "amounts" "[I", Cond.fieldLink RX5 13 "DriftGrinders$Row" "marks" "[I", Cond.instanceMethod yX0_init, Cond.code yX0_init cX0_init 1 none, Cond.methodLink RX0 3 objectInit, Cond.fieldLink RX0 9 "DriftGrinders$Burr" "dial" "I", Cond.methodLink RX1 30 yX5_init, Cond.instanceMethod yX6_init, Cond.code yX6_init cX6_init 1 none, Cond.methodLink RX6 3 objectInit, Cond.fieldLink RX6 11 "DriftGrinders$Shots" "facts" "[I", Cond.instanceMethod yX4_init, Cond.code yX4_init cX4_init 1 none, Cond.methodLink RX4 3 objectInit, Cond.arrayClass .char, Cond.fieldLink RX4 9 "DriftGrinders$Orders" "signs" "[C"]
def wsX7_init : List Cond := .code yX7_init cX7_init 1 none :: ((wsX7_init_r1 ++ (wsX7_init_r2 ++ wsX7_init_r3)) ++ wsX20 ++ wsX70 ++ wsX40 ++ wsX10 ++ wsX30 ++ wsX00 ++ wsX50 ++ wsX60)
def wsX7_spareLikeNow_r1 : List Cond := [Cond.fieldLink RX7 30 "DriftGrinders" "spare" "LDriftGrinders$Grinder;", Cond.fieldLink RX7 26 "DriftGrinders" "now" "LDriftGrinders$Grinder;", Cond.methodLink RX7 160 yX1_copyFrom, Cond.instanceMethod yX1_copyFrom, Cond.selects RX1 yX1_copyFrom yX1_copyFrom, Cond.initialized RX1, Cond.code yX1_copyFrom cX1_copyFrom 2 none, Cond.fieldLink RX1 12 "DriftGrinders$Grinder" "hopper" "LDriftGrinders$Hopper;", Cond.fieldLink RX1 21 "DriftGrinders$Grinder" "burr0" "LDriftGrinders$Burr;", Cond.fieldLink RX1 25 "DriftGrinders$Grinder" "burr1" "LDriftGrinders$Burr;", Cond.fieldLink RX1 33 "DriftGrinders$Grinder" "chute" "LDriftGrinders$Row;", Cond.fieldLink RX1 37 "DriftGrinders$Grinder" "basket" "LDriftGrinders$Row;", Cond.fieldLink RX1 43 "DriftGrinders$Grinder" "shots" "LDriftGrinders$Shots;", Cond.fieldLink RX1 47 "DriftGrinders$Grinder" "settings" "[I", Cond.methodLink RX1 64 arraycopyName, Cond.native arraycopyName, Cond.static arraycopyName, Cond.initialized "java/lang/System", Cond.fieldLink RX1 70 "DriftGrinders$Grinder" "second" "I", Cond.fieldLink RX1 74 "DriftGrinders$Grinder" "filled" "I", Cond.fieldLink RX1 77 "DriftGrinders$Grinder" "ground" "I", Cond.fieldLink RX1 80 "DriftGrinders$Grinder" "brewed" "I", Cond.fieldLink RX1 83 "DriftGrinders$Grinder" "purged" "I", Cond.fieldLink RX1 86 "DriftGrinders$Grinder" "shotsNearTarget" "I"]
def wsX7_spareLikeNow_r2 : List Cond := [Cond.methodLink RX1 51 yX3_copyFrom, Cond.instanceMethod yX3_copyFrom, Cond.selects RX3 yX3_copyFrom yX3_copyFrom, Cond.initialized RX3, Cond.code yX3_copyFrom cX3_copyFrom 2 none, Cond.fieldLink RX3 14 "DriftGrinders$Hopper" "lots" "LDriftGrinders$Row;", Cond.methodLink RX3 20 yX5_copyFrom, Cond.instanceMethod yX5_copyFrom, Cond.selects RX5 yX5_copyFrom yX5_copyFrom, Cond.initialized RX5, Cond.code yX5_copyFrom cX5_copyFrom 2 none, Cond.fieldLink RX5 16 "DriftGrinders$Row" "length" "I", Cond.fieldLink RX5 7 "DriftGrinders$Row" "amounts" "[I", Cond.methodLink RX5 20 Lib.Math.min.name, Cond.static Lib.Math.min.name, Cond.initialized "java/lang/Math", Cond.code Lib.Math.min.name Lib.Math.min.code 2 (some .int), Cond.fieldLink RX5 26 "DriftGrinders$Row" "total" "I", Cond.methodLink RX5 29 arraycopyName, Cond.fieldLink RX5 13 "DriftGrinders$Row" "marks" "[I", Cond.methodLink RX1 55 yX0_copyFrom, Cond.instanceMethod yX0_copyFrom, Cond.selects RX0 yX0_copyFrom yX0_copyFrom, Cond.initialized RX0]
def wsX7_spareLikeNow_r3 : List Cond := [Cond.code yX0_copyFrom cX0_copyFrom 2 none, Cond.fieldLink RX0 9 "DriftGrinders$Burr" "dial" "I", Cond.fieldLink RX0 15 "DriftGrinders$Burr" "warmth" "I", Cond.fieldLink RX0 18 "DriftGrinders$Burr" "ground" "I", Cond.fieldLink RX0 21 "DriftGrinders$Burr" "corrections" "I", Cond.methodLink RX1 58 yX5_copyFrom, Cond.methodLink RX1 61 yX6_copyFrom, Cond.instanceMethod yX6_copyFrom, Cond.selects RX6 yX6_copyFrom yX6_copyFrom, Cond.initialized RX6, Cond.code yX6_copyFrom cX6_copyFrom 2 none, Cond.fieldLink RX6 11 "DriftGrinders$Shots" "facts" "[I", Cond.methodLink RX6 15 arraycopyName, Cond.fieldLink RX6 21 "DriftGrinders$Shots" "kept" "I", Cond.fieldLink RX6 25 "DriftGrinders$Shots" "made" "I"]
def wsX7_spareLikeNow : List Cond := .code yX7_spareLikeNow cX7_spareLikeNow 1 (some (.object "DriftGrinders$Grinder")) :: ((wsX7_spareLikeNow_r1 ++ (wsX7_spareLikeNow_r2 ++ wsX7_spareLikeNow_r3)) ++ wsX70 ++ wsX10 ++ wsX30 ++ wsX50 ++ wsX00 ++ wsX60)
def wsX7_keepIfDone : List Cond := .code yX7_keepIfDone cX7_keepIfDone 3 (some .int) :: ([.fieldLink RX7 26 "DriftGrinders" "now" "LDriftGrinders$Grinder;", .fieldLink RX7 30 "DriftGrinders" "spare" "LDriftGrinders$Grinder;", .fieldLink RX7 10 "DriftGrinders" "history" "LDriftGrinders$History;", .methodLink RX7 163 yX2_add, .instanceMethod yX2_add, .selects RX2 yX2_add yX2_add, .initialized RX2, .code yX2_add cX2_add 3 (some (.object "DriftGrinders$Grinder")), .fieldLink RX2 24 "DriftGrinders$History" "oldest" "LDriftGrinders$Grinder;", .fieldLink RX2 21 "DriftGrinders$History" "third" "LDriftGrinders$Grinder;", .fieldLink RX2 18 "DriftGrinders$History" "second" "LDriftGrinders$Grinder;", .fieldLink RX2 12 "DriftGrinders$History" "latest" "LDriftGrinders$Grinder;", .fieldLink RX2 27 "DriftGrinders$History" "states" "I", .methodLink RX2 31 Lib.Math.min.name, .static Lib.Math.min.name, .initialized "java/lang/Math", .code Lib.Math.min.name Lib.Math.min.code 2 (some .int)] ++ wsX70 ++ wsX20)
def wsX7_fill_r1 : List Cond := [Cond.methodLink RX7 33 yX7_spareLikeNow, Cond.instanceMethod yX7_spareLikeNow, Cond.selects RX7 yX7_spareLikeNow yX7_spareLikeNow, Cond.initialized RX7, Cond.code yX7_spareLikeNow cX7_spareLikeNow 1 (some (.object "DriftGrinders$Grinder")), Cond.fieldLink RX7 30 "DriftGrinders" "spare" "LDriftGrinders$Grinder;", Cond.fieldLink RX7 26 "DriftGrinders" "now" "LDriftGrinders$Grinder;", Cond.methodLink RX7 160 yX1_copyFrom, Cond.instanceMethod yX1_copyFrom, Cond.selects RX1 yX1_copyFrom yX1_copyFrom, Cond.initialized RX1, Cond.code yX1_copyFrom cX1_copyFrom 2 none, Cond.fieldLink RX1 12 "DriftGrinders$Grinder" "hopper" "LDriftGrinders$Hopper;", Cond.fieldLink RX1 21 "DriftGrinders$Grinder" "burr0" "LDriftGrinders$Burr;", Cond.fieldLink RX1 25 "DriftGrinders$Grinder" "burr1" "LDriftGrinders$Burr;", Cond.fieldLink RX1 33 "DriftGrinders$Grinder" "chute" "LDriftGrinders$Row;", Cond.fieldLink RX1 37 "DriftGrinders$Grinder" "basket" "LDriftGrinders$Row;", Cond.fieldLink RX1 43 "DriftGrinders$Grinder" "shots" "LDriftGrinders$Shots;", Cond.fieldLink RX1 47 "DriftGrinders$Grinder" "settings" "[I", Cond.methodLink RX1 64 arraycopyName, Cond.native arraycopyName, Cond.static arraycopyName, Cond.initialized "java/lang/System", Cond.fieldLink RX1 70 "DriftGrinders$Grinder" "second" "I"]
def wsX7_fill_r2 : List Cond := [Cond.fieldLink RX1 74 "DriftGrinders$Grinder" "filled" "I", Cond.fieldLink RX1 77 "DriftGrinders$Grinder" "ground" "I", Cond.fieldLink RX1 80 "DriftGrinders$Grinder" "brewed" "I", Cond.fieldLink RX1 83 "DriftGrinders$Grinder" "purged" "I", Cond.fieldLink RX1 86 "DriftGrinders$Grinder" "shotsNearTarget" "I", Cond.methodLink RX1 51 yX3_copyFrom, Cond.instanceMethod yX3_copyFrom, Cond.selects RX3 yX3_copyFrom yX3_copyFrom, Cond.initialized RX3, Cond.code yX3_copyFrom cX3_copyFrom 2 none, Cond.fieldLink RX3 14 "DriftGrinders$Hopper" "lots" "LDriftGrinders$Row;", Cond.methodLink RX3 20 yX5_copyFrom, Cond.instanceMethod yX5_copyFrom, Cond.selects RX5 yX5_copyFrom yX5_copyFrom, Cond.initialized RX5, Cond.code yX5_copyFrom cX5_copyFrom 2 none, Cond.fieldLink RX5 16 "DriftGrinders$Row" "length" "I", Cond.fieldLink RX5 7 "DriftGrinders$Row" "amounts" "[I", Cond.methodLink RX5 20 Lib.Math.min.name, Cond.static Lib.Math.min.name, Cond.initialized "java/lang/Math", Cond.code Lib.Math.min.name Lib.Math.min.code 2 (some .int), Cond.fieldLink RX5 26 "DriftGrinders$Row" "total" "I", Cond.methodLink RX5 29 arraycopyName]
def wsX7_fill_r3 : List Cond := [Cond.fieldLink RX5 13 "DriftGrinders$Row" "marks" "[I", Cond.methodLink RX1 55 yX0_copyFrom, Cond.instanceMethod yX0_copyFrom, Cond.selects RX0 yX0_copyFrom yX0_copyFrom, Cond.initialized RX0, Cond.code yX0_copyFrom cX0_copyFrom 2 none, Cond.fieldLink RX0 9 "DriftGrinders$Burr" "dial" "I", Cond.fieldLink RX0 15 "DriftGrinders$Burr" "warmth" "I", Cond.fieldLink RX0 18 "DriftGrinders$Burr" "ground" "I", Cond.fieldLink RX0 21 "DriftGrinders$Burr" "corrections" "I", Cond.methodLink RX1 58 yX5_copyFrom, Cond.methodLink RX1 61 yX6_copyFrom, Cond.instanceMethod yX6_copyFrom, Cond.selects RX6 yX6_copyFrom yX6_copyFrom, Cond.initialized RX6, Cond.code yX6_copyFrom cX6_copyFrom 2 none, Cond.fieldLink RX6 11 "DriftGrinders$Shots" "facts" "[I", Cond.methodLink RX6 15 arraycopyName, Cond.fieldLink RX6 21 "DriftGrinders$Shots" "kept" "I", Cond.fieldLink RX6 25 "DriftGrinders$Shots" "made" "I", Cond.methodLink RX7 37 yX1_fillIn, Cond.instanceMethod yX1_fillIn, Cond.selects RX1 yX1_fillIn yX1_fillIn, Cond.code yX1_fillIn cX1_fillIn 3 (some .int)]
def wsX7_fill_r4 : List Cond := [Cond.constant RX1 93 (-1000001), Cond.constant RX1 98 (-1000003), Cond.static yX7_isZeroOrOne, Cond.code yX7_isZeroOrOne cX7_isZeroOrOne 1 (some .boolean), Cond.methodLink RX1 94 yX3_hasRoomFor, Cond.instanceMethod yX3_hasRoomFor, Cond.selects RX3 yX3_hasRoomFor yX3_hasRoomFor, Cond.code yX3_hasRoomFor cX3_hasRoomFor 3 (some .boolean), Cond.methodLink RX3 31 yX3_endsWith, Cond.instanceMethod yX3_endsWith, Cond.selects RX3 yX3_endsWith yX3_endsWith, Cond.code yX3_endsWith cX3_endsWith 2 (some .boolean), Cond.methodLink RX3 35 yX5_markAt, Cond.instanceMethod yX5_markAt, Cond.selects RX5 yX5_markAt yX5_markAt, Cond.code yX5_markAt cX5_markAt 2 (some .int), Cond.methodLink RX1 99 yX3_pourIn, Cond.instanceMethod yX3_pourIn, Cond.selects RX3 yX3_pourIn yX3_pourIn, Cond.code yX3_pourIn cX3_pourIn 3 none, Cond.methodLink RX3 39 yX5_addToLast, Cond.instanceMethod yX5_addToLast, Cond.selects RX5 yX5_addToLast yX5_addToLast, Cond.code yX5_addToLast cX5_addToLast 2 none]
def wsX7_fill_r5 : List Cond := [Cond.methodLink RX3 42 yX5_append, Cond.instanceMethod yX5_append, Cond.selects RX5 yX5_append yX5_append, Cond.code yX5_append cX5_append 3 none, Cond.methodLink RX1 103 yX3_amount, Cond.instanceMethod yX3_amount, Cond.selects RX3 yX3_amount yX3_amount, Cond.code yX3_amount cX3_amount 1 (some .int), Cond.methodLink RX7 41 yX7_keepIfDone, Cond.instanceMethod yX7_keepIfDone, Cond.selects RX7 yX7_keepIfDone yX7_keepIfDone, Cond.code yX7_keepIfDone cX7_keepIfDone 3 (some .int), Cond.fieldLink RX7 10 "DriftGrinders" "history" "LDriftGrinders$History;", Cond.methodLink RX7 163 yX2_add, Cond.instanceMethod yX2_add, Cond.selects RX2 yX2_add yX2_add, Cond.initialized RX2, Cond.code yX2_add cX2_add 3 (some (.object "DriftGrinders$Grinder")), Cond.fieldLink RX2 24 "DriftGrinders$History" "oldest" "LDriftGrinders$Grinder;", Cond.fieldLink RX2 21 "DriftGrinders$History" "third" "LDriftGrinders$Grinder;", Cond.fieldLink RX2 18 "DriftGrinders$History" "second" "LDriftGrinders$Grinder;", Cond.fieldLink RX2 12 "DriftGrinders$History" "latest" "LDriftGrinders$Grinder;", Cond.fieldLink RX2 27 "DriftGrinders$History" "states" "I", Cond.methodLink RX2 31 Lib.Math.min.name]
def wsX7_fill : List Cond := .code yX7_fill cX7_fill 3 (some .int) :: ((wsX7_fill_r1 ++ (wsX7_fill_r2 ++ (wsX7_fill_r3 ++ (wsX7_fill_r4 ++ wsX7_fill_r5)))) ++ wsX70 ++ wsX10 ++ wsX30 ++ wsX50 ++ wsX00 ++ wsX60 ++ wsX20)
def wsX7_grind_r1 : List Cond := [Cond.methodLink RX7 33 yX7_spareLikeNow, Cond.instanceMethod yX7_spareLikeNow, Cond.selects RX7 yX7_spareLikeNow yX7_spareLikeNow, Cond.initialized RX7, Cond.code yX7_spareLikeNow cX7_spareLikeNow 1 (some (.object "DriftGrinders$Grinder")), Cond.fieldLink RX7 30 "DriftGrinders" "spare" "LDriftGrinders$Grinder;", Cond.fieldLink RX7 26 "DriftGrinders" "now" "LDriftGrinders$Grinder;", Cond.methodLink RX7 160 yX1_copyFrom, Cond.instanceMethod yX1_copyFrom, Cond.selects RX1 yX1_copyFrom yX1_copyFrom, Cond.initialized RX1, Cond.code yX1_copyFrom cX1_copyFrom 2 none, Cond.fieldLink RX1 12 "DriftGrinders$Grinder" "hopper" "LDriftGrinders$Hopper;", Cond.fieldLink RX1 21 "DriftGrinders$Grinder" "burr0" "LDriftGrinders$Burr;", Cond.fieldLink RX1 25 "DriftGrinders$Grinder" "burr1" "LDriftGrinders$Burr;", Cond.fieldLink RX1 33 "DriftGrinders$Grinder" "chute" "LDriftGrinders$Row;", Cond.fieldLink RX1 37 "DriftGrinders$Grinder" "basket" "LDriftGrinders$Row;", Cond.fieldLink RX1 43 "DriftGrinders$Grinder" "shots" "LDriftGrinders$Shots;", Cond.fieldLink RX1 47 "DriftGrinders$Grinder" "settings" "[I", Cond.methodLink RX1 64 arraycopyName, Cond.native arraycopyName, Cond.static arraycopyName, Cond.initialized "java/lang/System", Cond.fieldLink RX1 70 "DriftGrinders$Grinder" "second" "I"]
def wsX7_grind_r2 : List Cond := [Cond.fieldLink RX1 74 "DriftGrinders$Grinder" "filled" "I", Cond.fieldLink RX1 77 "DriftGrinders$Grinder" "ground" "I", Cond.fieldLink RX1 80 "DriftGrinders$Grinder" "brewed" "I", Cond.fieldLink RX1 83 "DriftGrinders$Grinder" "purged" "I", Cond.fieldLink RX1 86 "DriftGrinders$Grinder" "shotsNearTarget" "I", Cond.methodLink RX1 51 yX3_copyFrom, Cond.instanceMethod yX3_copyFrom, Cond.selects RX3 yX3_copyFrom yX3_copyFrom, Cond.initialized RX3, Cond.code yX3_copyFrom cX3_copyFrom 2 none, Cond.fieldLink RX3 14 "DriftGrinders$Hopper" "lots" "LDriftGrinders$Row;", Cond.methodLink RX3 20 yX5_copyFrom, Cond.instanceMethod yX5_copyFrom, Cond.selects RX5 yX5_copyFrom yX5_copyFrom, Cond.initialized RX5, Cond.code yX5_copyFrom cX5_copyFrom 2 none, Cond.fieldLink RX5 16 "DriftGrinders$Row" "length" "I", Cond.fieldLink RX5 7 "DriftGrinders$Row" "amounts" "[I", Cond.methodLink RX5 20 Lib.Math.min.name, Cond.static Lib.Math.min.name, Cond.initialized "java/lang/Math", Cond.code Lib.Math.min.name Lib.Math.min.code 2 (some .int), Cond.fieldLink RX5 26 "DriftGrinders$Row" "total" "I", Cond.methodLink RX5 29 arraycopyName]
def wsX7_grind_r3 : List Cond := [Cond.fieldLink RX5 13 "DriftGrinders$Row" "marks" "[I", Cond.methodLink RX1 55 yX0_copyFrom, Cond.instanceMethod yX0_copyFrom, Cond.selects RX0 yX0_copyFrom yX0_copyFrom, Cond.initialized RX0, Cond.code yX0_copyFrom cX0_copyFrom 2 none, Cond.fieldLink RX0 9 "DriftGrinders$Burr" "dial" "I", Cond.fieldLink RX0 15 "DriftGrinders$Burr" "warmth" "I", Cond.fieldLink RX0 18 "DriftGrinders$Burr" "ground" "I", Cond.fieldLink RX0 21 "DriftGrinders$Burr" "corrections" "I", Cond.methodLink RX1 58 yX5_copyFrom, Cond.methodLink RX1 61 yX6_copyFrom, Cond.instanceMethod yX6_copyFrom, Cond.selects RX6 yX6_copyFrom yX6_copyFrom, Cond.initialized RX6, Cond.code yX6_copyFrom cX6_copyFrom 2 none, Cond.fieldLink RX6 11 "DriftGrinders$Shots" "facts" "[I", Cond.methodLink RX6 15 arraycopyName, Cond.fieldLink RX6 21 "DriftGrinders$Shots" "kept" "I", Cond.fieldLink RX6 25 "DriftGrinders$Shots" "made" "I", Cond.methodLink RX7 45 yX1_grindBy, Cond.instanceMethod yX1_grindBy, Cond.selects RX1 yX1_grindBy yX1_grindBy, Cond.code yX1_grindBy cX1_grindBy 5 (some .int)]
def wsX7_grind_r4 : List Cond := [Cond.constant RX1 93 (-1000001), Cond.constant RX1 107 (-1000002), Cond.methodLink RX1 111 Lib.Math.max.name, Cond.static Lib.Math.max.name, Cond.code Lib.Math.max.name Lib.Math.max.code 2 (some .int), Cond.constant RX1 98 (-1000003), Cond.static yX7_isZeroOrOne, Cond.code yX7_isZeroOrOne cX7_isZeroOrOne 1 (some .boolean), Cond.methodLink RX1 103 yX3_amount, Cond.instanceMethod yX3_amount, Cond.selects RX3 yX3_amount yX3_amount, Cond.code yX3_amount cX3_amount 1 (some .int), Cond.methodLink RX1 117 yX1_burrNumbered, Cond.instanceMethod yX1_burrNumbered, Cond.selects RX1 yX1_burrNumbered yX1_burrNumbered, Cond.code yX1_burrNumbered cX1_burrNumbered 2 (some (.object "DriftGrinders$Burr")), Cond.methodLink RX1 121 yX0_gap, Cond.instanceMethod yX0_gap, Cond.selects RX0 yX0_gap yX0_gap, Cond.code yX0_gap cX0_gap 1 (some .int), Cond.methodLink RX0 24 yX0_gapAt, Cond.instanceMethod yX0_gapAt, Cond.selects RX0 yX0_gapAt yX0_gapAt, Cond.code yX0_gapAt cX0_gapAt 2 (some .int)]
def wsX7_grind_r5 : List Cond := [Cond.methodLink RX0 28 Lib.Math.max.name, Cond.methodLink RX1 124 yX3_letOut, Cond.instanceMethod yX3_letOut, Cond.selects RX3 yX3_letOut yX3_letOut, Cond.code yX3_letOut cX3_letOut 5 none, Cond.static yX7_markOf, Cond.code yX7_markOf cX7_markOf 3 (some .int), Cond.methodLink RX3 50 yX5_letOut, Cond.instanceMethod yX5_letOut, Cond.selects RX5 yX5_letOut yX5_letOut, Cond.code yX5_letOut cX5_letOut 8 none, Cond.methodLink RX5 35 yX5_append, Cond.instanceMethod yX5_append, Cond.selects RX5 yX5_append yX5_append, Cond.code yX5_append cX5_append 3 none, Cond.methodLink RX5 39 yX5_dropFirst, Cond.instanceMethod yX5_dropFirst, Cond.selects RX5 yX5_dropFirst yX5_dropFirst, Cond.code yX5_dropFirst cX5_dropFirst 2 none, Cond.methodLink RX1 128 yX0_warmByGrinding, Cond.instanceMethod yX0_warmByGrinding, Cond.selects RX0 yX0_warmByGrinding yX0_warmByGrinding, Cond.code yX0_warmByGrinding cX0_warmByGrinding 2 none, Cond.methodLink RX0 34 Lib.Math.min.name]
def wsX7_grind_r6 : List Cond := [Cond.methodLink RX1 131 yX5_letOut, Cond.methodLink RX1 134 yX1_passSeconds, Cond.instanceMethod yX1_passSeconds, Cond.selects RX1 yX1_passSeconds yX1_passSeconds, Cond.code yX1_passSeconds cX1_passSeconds 3 none, Cond.methodLink RX1 143 yX0_cool, Cond.instanceMethod yX0_cool, Cond.selects RX0 yX0_cool yX0_cool, Cond.code yX0_cool cX0_cool 3 none, Cond.static yX7_fallOf, Cond.code yX7_fallOf cX7_fallOf 1 (some .int), Cond.methodLink RX7 41 yX7_keepIfDone, Cond.instanceMethod yX7_keepIfDone, Cond.selects RX7 yX7_keepIfDone yX7_keepIfDone, Cond.code yX7_keepIfDone cX7_keepIfDone 3 (some .int), Cond.fieldLink RX7 10 "DriftGrinders" "history" "LDriftGrinders$History;", Cond.methodLink RX7 163 yX2_add, Cond.instanceMethod yX2_add, Cond.selects RX2 yX2_add yX2_add, Cond.initialized RX2, Cond.code yX2_add cX2_add 3 (some (.object "DriftGrinders$Grinder")), Cond.fieldLink RX2 24 "DriftGrinders$History" "oldest" "LDriftGrinders$Grinder;", Cond.fieldLink RX2 21 "DriftGrinders$History" "third" "LDriftGrinders$Grinder;", Cond.fieldLink RX2 18 "DriftGrinders$History" "second" "LDriftGrinders$Grinder;"]
def wsX7_grind_r7 : List Cond := [Cond.fieldLink RX2 12 "DriftGrinders$History" "latest" "LDriftGrinders$Grinder;", Cond.fieldLink RX2 27 "DriftGrinders$History" "states" "I", Cond.methodLink RX2 31 Lib.Math.min.name]
def wsX7_grind : List Cond := .code yX7_grind cX7_grind 3 (some .int) :: ((wsX7_grind_r1 ++ (wsX7_grind_r2 ++ (wsX7_grind_r3 ++ (wsX7_grind_r4 ++ (wsX7_grind_r5 ++ (wsX7_grind_r6 ++ wsX7_grind_r7)))))) ++ wsX70 ++ wsX10 ++ wsX30 ++ wsX50 ++ wsX00 ++ wsX60 ++ wsX20)
def wsX7_dial_r1 : List Cond := [Cond.methodLink RX7 33 yX7_spareLikeNow, Cond.instanceMethod yX7_spareLikeNow, Cond.selects RX7 yX7_spareLikeNow yX7_spareLikeNow, Cond.initialized RX7, Cond.code yX7_spareLikeNow cX7_spareLikeNow 1 (some (.object "DriftGrinders$Grinder")), Cond.fieldLink RX7 30 "DriftGrinders" "spare" "LDriftGrinders$Grinder;", Cond.fieldLink RX7 26 "DriftGrinders" "now" "LDriftGrinders$Grinder;", Cond.methodLink RX7 160 yX1_copyFrom, Cond.instanceMethod yX1_copyFrom, Cond.selects RX1 yX1_copyFrom yX1_copyFrom, Cond.initialized RX1, Cond.code yX1_copyFrom cX1_copyFrom 2 none, Cond.fieldLink RX1 12 "DriftGrinders$Grinder" "hopper" "LDriftGrinders$Hopper;", Cond.fieldLink RX1 21 "DriftGrinders$Grinder" "burr0" "LDriftGrinders$Burr;", Cond.fieldLink RX1 25 "DriftGrinders$Grinder" "burr1" "LDriftGrinders$Burr;", Cond.fieldLink RX1 33 "DriftGrinders$Grinder" "chute" "LDriftGrinders$Row;", Cond.fieldLink RX1 37 "DriftGrinders$Grinder" "basket" "LDriftGrinders$Row;", Cond.fieldLink RX1 43 "DriftGrinders$Grinder" "shots" "LDriftGrinders$Shots;", Cond.fieldLink RX1 47 "DriftGrinders$Grinder" "settings" "[I", Cond.methodLink RX1 64 arraycopyName, Cond.native arraycopyName, Cond.static arraycopyName, Cond.initialized "java/lang/System", Cond.fieldLink RX1 70 "DriftGrinders$Grinder" "second" "I"]
def wsX7_dial_r2 : List Cond := [Cond.fieldLink RX1 74 "DriftGrinders$Grinder" "filled" "I", Cond.fieldLink RX1 77 "DriftGrinders$Grinder" "ground" "I", Cond.fieldLink RX1 80 "DriftGrinders$Grinder" "brewed" "I", Cond.fieldLink RX1 83 "DriftGrinders$Grinder" "purged" "I", Cond.fieldLink RX1 86 "DriftGrinders$Grinder" "shotsNearTarget" "I", Cond.methodLink RX1 51 yX3_copyFrom, Cond.instanceMethod yX3_copyFrom, Cond.selects RX3 yX3_copyFrom yX3_copyFrom, Cond.initialized RX3, Cond.code yX3_copyFrom cX3_copyFrom 2 none, Cond.fieldLink RX3 14 "DriftGrinders$Hopper" "lots" "LDriftGrinders$Row;", Cond.methodLink RX3 20 yX5_copyFrom, Cond.instanceMethod yX5_copyFrom, Cond.selects RX5 yX5_copyFrom yX5_copyFrom, Cond.initialized RX5, Cond.code yX5_copyFrom cX5_copyFrom 2 none, Cond.fieldLink RX5 16 "DriftGrinders$Row" "length" "I", Cond.fieldLink RX5 7 "DriftGrinders$Row" "amounts" "[I", Cond.methodLink RX5 20 Lib.Math.min.name, Cond.static Lib.Math.min.name, Cond.initialized "java/lang/Math", Cond.code Lib.Math.min.name Lib.Math.min.code 2 (some .int), Cond.fieldLink RX5 26 "DriftGrinders$Row" "total" "I", Cond.methodLink RX5 29 arraycopyName]
def wsX7_dial_r3 : List Cond := [Cond.fieldLink RX5 13 "DriftGrinders$Row" "marks" "[I", Cond.methodLink RX1 55 yX0_copyFrom, Cond.instanceMethod yX0_copyFrom, Cond.selects RX0 yX0_copyFrom yX0_copyFrom, Cond.initialized RX0, Cond.code yX0_copyFrom cX0_copyFrom 2 none, Cond.fieldLink RX0 9 "DriftGrinders$Burr" "dial" "I", Cond.fieldLink RX0 15 "DriftGrinders$Burr" "warmth" "I", Cond.fieldLink RX0 18 "DriftGrinders$Burr" "ground" "I", Cond.fieldLink RX0 21 "DriftGrinders$Burr" "corrections" "I", Cond.methodLink RX1 58 yX5_copyFrom, Cond.methodLink RX1 61 yX6_copyFrom, Cond.instanceMethod yX6_copyFrom, Cond.selects RX6 yX6_copyFrom yX6_copyFrom, Cond.initialized RX6, Cond.code yX6_copyFrom cX6_copyFrom 2 none, Cond.fieldLink RX6 11 "DriftGrinders$Shots" "facts" "[I", Cond.methodLink RX6 15 arraycopyName, Cond.fieldLink RX6 21 "DriftGrinders$Shots" "kept" "I", Cond.fieldLink RX6 25 "DriftGrinders$Shots" "made" "I", Cond.methodLink RX7 48 yX1_turnDial, Cond.instanceMethod yX1_turnDial, Cond.selects RX1 yX1_turnDial yX1_turnDial, Cond.code yX1_turnDial cX1_turnDial 5 (some .int)]
def wsX7_dial_r4 : List Cond := [Cond.constant RX1 93 (-1000001), Cond.static yX7_isZeroOrOne, Cond.code yX7_isZeroOrOne cX7_isZeroOrOne 1 (some .boolean), Cond.methodLink RX1 117 yX1_burrNumbered, Cond.instanceMethod yX1_burrNumbered, Cond.selects RX1 yX1_burrNumbered yX1_burrNumbered, Cond.code yX1_burrNumbered cX1_burrNumbered 2 (some (.object "DriftGrinders$Burr")), Cond.methodLink RX7 41 yX7_keepIfDone, Cond.instanceMethod yX7_keepIfDone, Cond.selects RX7 yX7_keepIfDone yX7_keepIfDone, Cond.code yX7_keepIfDone cX7_keepIfDone 3 (some .int), Cond.fieldLink RX7 10 "DriftGrinders" "history" "LDriftGrinders$History;", Cond.methodLink RX7 163 yX2_add, Cond.instanceMethod yX2_add, Cond.selects RX2 yX2_add yX2_add, Cond.initialized RX2, Cond.code yX2_add cX2_add 3 (some (.object "DriftGrinders$Grinder")), Cond.fieldLink RX2 24 "DriftGrinders$History" "oldest" "LDriftGrinders$Grinder;", Cond.fieldLink RX2 21 "DriftGrinders$History" "third" "LDriftGrinders$Grinder;", Cond.fieldLink RX2 18 "DriftGrinders$History" "second" "LDriftGrinders$Grinder;", Cond.fieldLink RX2 12 "DriftGrinders$History" "latest" "LDriftGrinders$Grinder;", Cond.fieldLink RX2 27 "DriftGrinders$History" "states" "I", Cond.methodLink RX2 31 Lib.Math.min.name]
def wsX7_dial : List Cond := .code yX7_dial cX7_dial 3 (some .int) :: ((wsX7_dial_r1 ++ (wsX7_dial_r2 ++ (wsX7_dial_r3 ++ wsX7_dial_r4))) ++ wsX70 ++ wsX10 ++ wsX30 ++ wsX50 ++ wsX00 ++ wsX60 ++ wsX20)
def wsX7_rest_r1 : List Cond := [Cond.methodLink RX7 33 yX7_spareLikeNow, Cond.instanceMethod yX7_spareLikeNow, Cond.selects RX7 yX7_spareLikeNow yX7_spareLikeNow, Cond.initialized RX7, Cond.code yX7_spareLikeNow cX7_spareLikeNow 1 (some (.object "DriftGrinders$Grinder")), Cond.fieldLink RX7 30 "DriftGrinders" "spare" "LDriftGrinders$Grinder;", Cond.fieldLink RX7 26 "DriftGrinders" "now" "LDriftGrinders$Grinder;", Cond.methodLink RX7 160 yX1_copyFrom, Cond.instanceMethod yX1_copyFrom, Cond.selects RX1 yX1_copyFrom yX1_copyFrom, Cond.initialized RX1, Cond.code yX1_copyFrom cX1_copyFrom 2 none, Cond.fieldLink RX1 12 "DriftGrinders$Grinder" "hopper" "LDriftGrinders$Hopper;", Cond.fieldLink RX1 21 "DriftGrinders$Grinder" "burr0" "LDriftGrinders$Burr;", Cond.fieldLink RX1 25 "DriftGrinders$Grinder" "burr1" "LDriftGrinders$Burr;", Cond.fieldLink RX1 33 "DriftGrinders$Grinder" "chute" "LDriftGrinders$Row;", Cond.fieldLink RX1 37 "DriftGrinders$Grinder" "basket" "LDriftGrinders$Row;", Cond.fieldLink RX1 43 "DriftGrinders$Grinder" "shots" "LDriftGrinders$Shots;", Cond.fieldLink RX1 47 "DriftGrinders$Grinder" "settings" "[I", Cond.methodLink RX1 64 arraycopyName, Cond.native arraycopyName, Cond.static arraycopyName, Cond.initialized "java/lang/System", Cond.fieldLink RX1 70 "DriftGrinders$Grinder" "second" "I"]
def wsX7_rest_r2 : List Cond := [Cond.fieldLink RX1 74 "DriftGrinders$Grinder" "filled" "I", Cond.fieldLink RX1 77 "DriftGrinders$Grinder" "ground" "I", Cond.fieldLink RX1 80 "DriftGrinders$Grinder" "brewed" "I", Cond.fieldLink RX1 83 "DriftGrinders$Grinder" "purged" "I", Cond.fieldLink RX1 86 "DriftGrinders$Grinder" "shotsNearTarget" "I", Cond.methodLink RX1 51 yX3_copyFrom, Cond.instanceMethod yX3_copyFrom, Cond.selects RX3 yX3_copyFrom yX3_copyFrom, Cond.initialized RX3, Cond.code yX3_copyFrom cX3_copyFrom 2 none, Cond.fieldLink RX3 14 "DriftGrinders$Hopper" "lots" "LDriftGrinders$Row;", Cond.methodLink RX3 20 yX5_copyFrom, Cond.instanceMethod yX5_copyFrom, Cond.selects RX5 yX5_copyFrom yX5_copyFrom, Cond.initialized RX5, Cond.code yX5_copyFrom cX5_copyFrom 2 none, Cond.fieldLink RX5 16 "DriftGrinders$Row" "length" "I", Cond.fieldLink RX5 7 "DriftGrinders$Row" "amounts" "[I", Cond.methodLink RX5 20 Lib.Math.min.name, Cond.static Lib.Math.min.name, Cond.initialized "java/lang/Math", Cond.code Lib.Math.min.name Lib.Math.min.code 2 (some .int), Cond.fieldLink RX5 26 "DriftGrinders$Row" "total" "I", Cond.methodLink RX5 29 arraycopyName]
def wsX7_rest_r3 : List Cond := [Cond.fieldLink RX5 13 "DriftGrinders$Row" "marks" "[I", Cond.methodLink RX1 55 yX0_copyFrom, Cond.instanceMethod yX0_copyFrom, Cond.selects RX0 yX0_copyFrom yX0_copyFrom, Cond.initialized RX0, Cond.code yX0_copyFrom cX0_copyFrom 2 none, Cond.fieldLink RX0 9 "DriftGrinders$Burr" "dial" "I", Cond.fieldLink RX0 15 "DriftGrinders$Burr" "warmth" "I", Cond.fieldLink RX0 18 "DriftGrinders$Burr" "ground" "I", Cond.fieldLink RX0 21 "DriftGrinders$Burr" "corrections" "I", Cond.methodLink RX1 58 yX5_copyFrom, Cond.methodLink RX1 61 yX6_copyFrom, Cond.instanceMethod yX6_copyFrom, Cond.selects RX6 yX6_copyFrom yX6_copyFrom, Cond.initialized RX6, Cond.code yX6_copyFrom cX6_copyFrom 2 none, Cond.fieldLink RX6 11 "DriftGrinders$Shots" "facts" "[I", Cond.methodLink RX6 15 arraycopyName, Cond.fieldLink RX6 21 "DriftGrinders$Shots" "kept" "I", Cond.fieldLink RX6 25 "DriftGrinders$Shots" "made" "I", Cond.methodLink RX7 51 yX1_letPass, Cond.instanceMethod yX1_letPass, Cond.selects RX1 yX1_letPass yX1_letPass, Cond.code yX1_letPass cX1_letPass 3 (some .int)]
def wsX7_rest_r4 : List Cond := [Cond.constant RX1 93 (-1000001), Cond.methodLink RX1 134 yX1_passSeconds, Cond.instanceMethod yX1_passSeconds, Cond.selects RX1 yX1_passSeconds yX1_passSeconds, Cond.code yX1_passSeconds cX1_passSeconds 3 none, Cond.methodLink RX1 143 yX0_cool, Cond.instanceMethod yX0_cool, Cond.selects RX0 yX0_cool yX0_cool, Cond.code yX0_cool cX0_cool 3 none, Cond.static yX7_fallOf, Cond.code yX7_fallOf cX7_fallOf 1 (some .int), Cond.methodLink RX7 41 yX7_keepIfDone, Cond.instanceMethod yX7_keepIfDone, Cond.selects RX7 yX7_keepIfDone yX7_keepIfDone, Cond.code yX7_keepIfDone cX7_keepIfDone 3 (some .int), Cond.fieldLink RX7 10 "DriftGrinders" "history" "LDriftGrinders$History;", Cond.methodLink RX7 163 yX2_add, Cond.instanceMethod yX2_add, Cond.selects RX2 yX2_add yX2_add, Cond.initialized RX2, Cond.code yX2_add cX2_add 3 (some (.object "DriftGrinders$Grinder")), Cond.fieldLink RX2 24 "DriftGrinders$History" "oldest" "LDriftGrinders$Grinder;", Cond.fieldLink RX2 21 "DriftGrinders$History" "third" "LDriftGrinders$Grinder;", Cond.fieldLink RX2 18 "DriftGrinders$History" "second" "LDriftGrinders$Grinder;"]
def wsX7_rest_r5 : List Cond := [Cond.fieldLink RX2 12 "DriftGrinders$History" "latest" "LDriftGrinders$Grinder;", Cond.fieldLink RX2 27 "DriftGrinders$History" "states" "I", Cond.methodLink RX2 31 Lib.Math.min.name]
def wsX7_rest : List Cond := .code yX7_rest cX7_rest 2 (some .int) :: ((wsX7_rest_r1 ++ (wsX7_rest_r2 ++ (wsX7_rest_r3 ++ (wsX7_rest_r4 ++ wsX7_rest_r5)))) ++ wsX70 ++ wsX10 ++ wsX30 ++ wsX50 ++ wsX00 ++ wsX60 ++ wsX20)
def wsX7_shot_r1 : List Cond := [Cond.methodLink RX7 33 yX7_spareLikeNow, Cond.instanceMethod yX7_spareLikeNow, Cond.selects RX7 yX7_spareLikeNow yX7_spareLikeNow, Cond.initialized RX7, Cond.code yX7_spareLikeNow cX7_spareLikeNow 1 (some (.object "DriftGrinders$Grinder")), Cond.fieldLink RX7 30 "DriftGrinders" "spare" "LDriftGrinders$Grinder;", Cond.fieldLink RX7 26 "DriftGrinders" "now" "LDriftGrinders$Grinder;", Cond.methodLink RX7 160 yX1_copyFrom, Cond.instanceMethod yX1_copyFrom, Cond.selects RX1 yX1_copyFrom yX1_copyFrom, Cond.initialized RX1, Cond.code yX1_copyFrom cX1_copyFrom 2 none, Cond.fieldLink RX1 12 "DriftGrinders$Grinder" "hopper" "LDriftGrinders$Hopper;", Cond.fieldLink RX1 21 "DriftGrinders$Grinder" "burr0" "LDriftGrinders$Burr;", Cond.fieldLink RX1 25 "DriftGrinders$Grinder" "burr1" "LDriftGrinders$Burr;", Cond.fieldLink RX1 33 "DriftGrinders$Grinder" "chute" "LDriftGrinders$Row;", Cond.fieldLink RX1 37 "DriftGrinders$Grinder" "basket" "LDriftGrinders$Row;", Cond.fieldLink RX1 43 "DriftGrinders$Grinder" "shots" "LDriftGrinders$Shots;", Cond.fieldLink RX1 47 "DriftGrinders$Grinder" "settings" "[I", Cond.methodLink RX1 64 arraycopyName, Cond.native arraycopyName, Cond.static arraycopyName, Cond.initialized "java/lang/System", Cond.fieldLink RX1 70 "DriftGrinders$Grinder" "second" "I"]
def wsX7_shot_r2 : List Cond := [Cond.fieldLink RX1 74 "DriftGrinders$Grinder" "filled" "I", Cond.fieldLink RX1 77 "DriftGrinders$Grinder" "ground" "I", Cond.fieldLink RX1 80 "DriftGrinders$Grinder" "brewed" "I", Cond.fieldLink RX1 83 "DriftGrinders$Grinder" "purged" "I", Cond.fieldLink RX1 86 "DriftGrinders$Grinder" "shotsNearTarget" "I", Cond.methodLink RX1 51 yX3_copyFrom, Cond.instanceMethod yX3_copyFrom, Cond.selects RX3 yX3_copyFrom yX3_copyFrom, Cond.initialized RX3, Cond.code yX3_copyFrom cX3_copyFrom 2 none, Cond.fieldLink RX3 14 "DriftGrinders$Hopper" "lots" "LDriftGrinders$Row;", Cond.methodLink RX3 20 yX5_copyFrom, Cond.instanceMethod yX5_copyFrom, Cond.selects RX5 yX5_copyFrom yX5_copyFrom, Cond.initialized RX5, Cond.code yX5_copyFrom cX5_copyFrom 2 none, Cond.fieldLink RX5 16 "DriftGrinders$Row" "length" "I", Cond.fieldLink RX5 7 "DriftGrinders$Row" "amounts" "[I", Cond.methodLink RX5 20 Lib.Math.min.name, Cond.static Lib.Math.min.name, Cond.initialized "java/lang/Math", Cond.code Lib.Math.min.name Lib.Math.min.code 2 (some .int), Cond.fieldLink RX5 26 "DriftGrinders$Row" "total" "I", Cond.methodLink RX5 29 arraycopyName]
def wsX7_shot_r3 : List Cond := [Cond.fieldLink RX5 13 "DriftGrinders$Row" "marks" "[I", Cond.methodLink RX1 55 yX0_copyFrom, Cond.instanceMethod yX0_copyFrom, Cond.selects RX0 yX0_copyFrom yX0_copyFrom, Cond.initialized RX0, Cond.code yX0_copyFrom cX0_copyFrom 2 none, Cond.fieldLink RX0 9 "DriftGrinders$Burr" "dial" "I", Cond.fieldLink RX0 15 "DriftGrinders$Burr" "warmth" "I", Cond.fieldLink RX0 18 "DriftGrinders$Burr" "ground" "I", Cond.fieldLink RX0 21 "DriftGrinders$Burr" "corrections" "I", Cond.methodLink RX1 58 yX5_copyFrom, Cond.methodLink RX1 61 yX6_copyFrom, Cond.instanceMethod yX6_copyFrom, Cond.selects RX6 yX6_copyFrom yX6_copyFrom, Cond.initialized RX6, Cond.code yX6_copyFrom cX6_copyFrom 2 none, Cond.fieldLink RX6 11 "DriftGrinders$Shots" "facts" "[I", Cond.methodLink RX6 15 arraycopyName, Cond.fieldLink RX6 21 "DriftGrinders$Shots" "kept" "I", Cond.fieldLink RX6 25 "DriftGrinders$Shots" "made" "I", Cond.methodLink RX7 54 yX1_makeShot, Cond.instanceMethod yX1_makeShot, Cond.selects RX1 yX1_makeShot yX1_makeShot, Cond.code yX1_makeShot cX1_makeShot 4 (some .int)]
def wsX7_shot_r4 : List Cond := [Cond.methodLink RX1 146 yX1_timeOfBasket, Cond.instanceMethod yX1_timeOfBasket, Cond.selects RX1 yX1_timeOfBasket yX1_timeOfBasket, Cond.code yX1_timeOfBasket cX1_timeOfBasket 3 (some .int), Cond.constant RX1 107 (-1000002), Cond.methodLink RX1 173 yX5_amountAt, Cond.instanceMethod yX5_amountAt, Cond.selects RX5 yX5_amountAt yX5_amountAt, Cond.code yX5_amountAt cX5_amountAt 2 (some .int), Cond.methodLink RX1 176 yX5_markAt, Cond.instanceMethod yX5_markAt, Cond.selects RX5 yX5_markAt yX5_markAt, Cond.code yX5_markAt cX5_markAt 2 (some .int), Cond.methodLink RX1 179 yX1_flowOfMark, Cond.instanceMethod yX1_flowOfMark, Cond.selects RX1 yX1_flowOfMark yX1_flowOfMark, Cond.code yX1_flowOfMark cX1_flowOfMark 2 (some .int), Cond.static yX7_kindOfMark, Cond.code yX7_kindOfMark cX7_kindOfMark 1 (some .int), Cond.methodLink RX1 185 yX1_hardnessOf, Cond.instanceMethod yX1_hardnessOf, Cond.selects RX1 yX1_hardnessOf yX1_hardnessOf, Cond.code yX1_hardnessOf cX1_hardnessOf 2 (some .int), Cond.static yX7_gapOfMark]
def wsX7_shot_r5 : List Cond := [Cond.code yX7_gapOfMark cX7_gapOfMark 1 (some .int), Cond.static yX7_flowOf, Cond.code yX7_flowOf cX7_flowOf 2 (some .int), Cond.methodLink RX1 149 yX5_isMostly, Cond.instanceMethod yX5_isMostly, Cond.selects RX5 yX5_isMostly yX5_isMostly, Cond.code yX5_isMostly cX5_isMostly 4 (some .boolean), Cond.methodLink RX1 155 yX6_add, Cond.instanceMethod yX6_add, Cond.selects RX6 yX6_add yX6_add, Cond.code yX6_add cX6_add 7 none, Cond.methodLink RX6 28 Lib.Math.min.name, Cond.methodLink RX1 159 yX5_clear, Cond.instanceMethod yX5_clear, Cond.selects RX5 yX5_clear yX5_clear, Cond.code yX5_clear cX5_clear 1 none, Cond.methodLink RX1 117 yX1_burrNumbered, Cond.instanceMethod yX1_burrNumbered, Cond.selects RX1 yX1_burrNumbered yX1_burrNumbered, Cond.code yX1_burrNumbered cX1_burrNumbered 2 (some (.object "DriftGrinders$Burr")), Cond.methodLink RX1 162 yX1_judge, Cond.instanceMethod yX1_judge, Cond.selects RX1 yX1_judge yX1_judge, Cond.code yX1_judge cX1_judge 3 none]
def wsX7_shot_r6 : List Cond := [Cond.methodLink RX1 166 Lib.Math.abs.name, Cond.static Lib.Math.abs.name, Cond.code Lib.Math.abs.name Lib.Math.abs.code 1 (some .int), Cond.methodLink RX1 170 yX0_correctBy, Cond.instanceMethod yX0_correctBy, Cond.selects RX0 yX0_correctBy yX0_correctBy, Cond.code yX0_correctBy cX0_correctBy 4 none, Cond.methodLink RX0 28 Lib.Math.max.name, Cond.static Lib.Math.max.name, Cond.code Lib.Math.max.name Lib.Math.max.code 2 (some .int), Cond.methodLink RX0 34 Lib.Math.min.name, Cond.methodLink RX1 134 yX1_passSeconds, Cond.instanceMethod yX1_passSeconds, Cond.selects RX1 yX1_passSeconds yX1_passSeconds, Cond.code yX1_passSeconds cX1_passSeconds 3 none, Cond.methodLink RX1 143 yX0_cool, Cond.instanceMethod yX0_cool, Cond.selects RX0 yX0_cool yX0_cool, Cond.code yX0_cool cX0_cool 3 none, Cond.static yX7_fallOf, Cond.code yX7_fallOf cX7_fallOf 1 (some .int), Cond.methodLink RX7 41 yX7_keepIfDone, Cond.instanceMethod yX7_keepIfDone, Cond.selects RX7 yX7_keepIfDone yX7_keepIfDone]
def wsX7_shot_r7 : List Cond := [Cond.code yX7_keepIfDone cX7_keepIfDone 3 (some .int), Cond.fieldLink RX7 10 "DriftGrinders" "history" "LDriftGrinders$History;", Cond.methodLink RX7 163 yX2_add, Cond.instanceMethod yX2_add, Cond.selects RX2 yX2_add yX2_add, Cond.initialized RX2, Cond.code yX2_add cX2_add 3 (some (.object "DriftGrinders$Grinder")), Cond.fieldLink RX2 24 "DriftGrinders$History" "oldest" "LDriftGrinders$Grinder;", Cond.fieldLink RX2 21 "DriftGrinders$History" "third" "LDriftGrinders$Grinder;", Cond.fieldLink RX2 18 "DriftGrinders$History" "second" "LDriftGrinders$Grinder;", Cond.fieldLink RX2 12 "DriftGrinders$History" "latest" "LDriftGrinders$Grinder;", Cond.fieldLink RX2 27 "DriftGrinders$History" "states" "I", Cond.methodLink RX2 31 Lib.Math.min.name]
def wsX7_shot : List Cond := .code yX7_shot cX7_shot 1 (some .int) :: ((wsX7_shot_r1 ++ (wsX7_shot_r2 ++ (wsX7_shot_r3 ++ (wsX7_shot_r4 ++ (wsX7_shot_r5 ++ (wsX7_shot_r6 ++ wsX7_shot_r7)))))) ++ wsX70 ++ wsX10 ++ wsX30 ++ wsX50 ++ wsX00 ++ wsX60 ++ wsX20)
def wsX7_purge_r1 : List Cond := [Cond.methodLink RX7 33 yX7_spareLikeNow, Cond.instanceMethod yX7_spareLikeNow, Cond.selects RX7 yX7_spareLikeNow yX7_spareLikeNow, Cond.initialized RX7, Cond.code yX7_spareLikeNow cX7_spareLikeNow 1 (some (.object "DriftGrinders$Grinder")), Cond.fieldLink RX7 30 "DriftGrinders" "spare" "LDriftGrinders$Grinder;", Cond.fieldLink RX7 26 "DriftGrinders" "now" "LDriftGrinders$Grinder;", Cond.methodLink RX7 160 yX1_copyFrom, Cond.instanceMethod yX1_copyFrom, Cond.selects RX1 yX1_copyFrom yX1_copyFrom, Cond.initialized RX1, Cond.code yX1_copyFrom cX1_copyFrom 2 none, Cond.fieldLink RX1 12 "DriftGrinders$Grinder" "hopper" "LDriftGrinders$Hopper;", Cond.fieldLink RX1 21 "DriftGrinders$Grinder" "burr0" "LDriftGrinders$Burr;", Cond.fieldLink RX1 25 "DriftGrinders$Grinder" "burr1" "LDriftGrinders$Burr;", Cond.fieldLink RX1 33 "DriftGrinders$Grinder" "chute" "LDriftGrinders$Row;", Cond.fieldLink RX1 37 "DriftGrinders$Grinder" "basket" "LDriftGrinders$Row;", Cond.fieldLink RX1 43 "DriftGrinders$Grinder" "shots" "LDriftGrinders$Shots;", Cond.fieldLink RX1 47 "DriftGrinders$Grinder" "settings" "[I", Cond.methodLink RX1 64 arraycopyName, Cond.native arraycopyName, Cond.static arraycopyName, Cond.initialized "java/lang/System", Cond.fieldLink RX1 70 "DriftGrinders$Grinder" "second" "I"]
def wsX7_purge_r2 : List Cond := [Cond.fieldLink RX1 74 "DriftGrinders$Grinder" "filled" "I", Cond.fieldLink RX1 77 "DriftGrinders$Grinder" "ground" "I", Cond.fieldLink RX1 80 "DriftGrinders$Grinder" "brewed" "I", Cond.fieldLink RX1 83 "DriftGrinders$Grinder" "purged" "I", Cond.fieldLink RX1 86 "DriftGrinders$Grinder" "shotsNearTarget" "I", Cond.methodLink RX1 51 yX3_copyFrom, Cond.instanceMethod yX3_copyFrom, Cond.selects RX3 yX3_copyFrom yX3_copyFrom, Cond.initialized RX3, Cond.code yX3_copyFrom cX3_copyFrom 2 none, Cond.fieldLink RX3 14 "DriftGrinders$Hopper" "lots" "LDriftGrinders$Row;", Cond.methodLink RX3 20 yX5_copyFrom, Cond.instanceMethod yX5_copyFrom, Cond.selects RX5 yX5_copyFrom yX5_copyFrom, Cond.initialized RX5, Cond.code yX5_copyFrom cX5_copyFrom 2 none, Cond.fieldLink RX5 16 "DriftGrinders$Row" "length" "I", Cond.fieldLink RX5 7 "DriftGrinders$Row" "amounts" "[I", Cond.methodLink RX5 20 Lib.Math.min.name, Cond.static Lib.Math.min.name, Cond.initialized "java/lang/Math", Cond.code Lib.Math.min.name Lib.Math.min.code 2 (some .int), Cond.fieldLink RX5 26 "DriftGrinders$Row" "total" "I", Cond.methodLink RX5 29 arraycopyName]
def wsX7_purge_r3 : List Cond := [Cond.fieldLink RX5 13 "DriftGrinders$Row" "marks" "[I", Cond.methodLink RX1 55 yX0_copyFrom, Cond.instanceMethod yX0_copyFrom, Cond.selects RX0 yX0_copyFrom yX0_copyFrom, Cond.initialized RX0, Cond.code yX0_copyFrom cX0_copyFrom 2 none, Cond.fieldLink RX0 9 "DriftGrinders$Burr" "dial" "I", Cond.fieldLink RX0 15 "DriftGrinders$Burr" "warmth" "I", Cond.fieldLink RX0 18 "DriftGrinders$Burr" "ground" "I", Cond.fieldLink RX0 21 "DriftGrinders$Burr" "corrections" "I", Cond.methodLink RX1 58 yX5_copyFrom, Cond.methodLink RX1 61 yX6_copyFrom, Cond.instanceMethod yX6_copyFrom, Cond.selects RX6 yX6_copyFrom yX6_copyFrom, Cond.initialized RX6, Cond.code yX6_copyFrom cX6_copyFrom 2 none, Cond.fieldLink RX6 11 "DriftGrinders$Shots" "facts" "[I", Cond.methodLink RX6 15 arraycopyName, Cond.fieldLink RX6 21 "DriftGrinders$Shots" "kept" "I", Cond.fieldLink RX6 25 "DriftGrinders$Shots" "made" "I", Cond.methodLink RX7 58 yX1_emptyChute, Cond.instanceMethod yX1_emptyChute, Cond.selects RX1 yX1_emptyChute yX1_emptyChute, Cond.code yX1_emptyChute cX1_emptyChute 2 (some .int)]
def wsX7_purge_r4 : List Cond := [Cond.methodLink RX1 159 yX5_clear, Cond.instanceMethod yX5_clear, Cond.selects RX5 yX5_clear yX5_clear, Cond.code yX5_clear cX5_clear 1 none, Cond.methodLink RX7 41 yX7_keepIfDone, Cond.instanceMethod yX7_keepIfDone, Cond.selects RX7 yX7_keepIfDone yX7_keepIfDone, Cond.code yX7_keepIfDone cX7_keepIfDone 3 (some .int), Cond.fieldLink RX7 10 "DriftGrinders" "history" "LDriftGrinders$History;", Cond.methodLink RX7 163 yX2_add, Cond.instanceMethod yX2_add, Cond.selects RX2 yX2_add yX2_add, Cond.initialized RX2, Cond.code yX2_add cX2_add 3 (some (.object "DriftGrinders$Grinder")), Cond.fieldLink RX2 24 "DriftGrinders$History" "oldest" "LDriftGrinders$Grinder;", Cond.fieldLink RX2 21 "DriftGrinders$History" "third" "LDriftGrinders$Grinder;", Cond.fieldLink RX2 18 "DriftGrinders$History" "second" "LDriftGrinders$Grinder;", Cond.fieldLink RX2 12 "DriftGrinders$History" "latest" "LDriftGrinders$Grinder;", Cond.fieldLink RX2 27 "DriftGrinders$History" "states" "I", Cond.methodLink RX2 31 Lib.Math.min.name]
def wsX7_purge : List Cond := .code yX7_purge cX7_purge 1 (some .int) :: ((wsX7_purge_r1 ++ (wsX7_purge_r2 ++ (wsX7_purge_r3 ++ wsX7_purge_r4))) ++ wsX70 ++ wsX10 ++ wsX30 ++ wsX50 ++ wsX00 ++ wsX60 ++ wsX20)
def wsX7_correct_r1 : List Cond := [Cond.methodLink RX7 33 yX7_spareLikeNow, Cond.instanceMethod yX7_spareLikeNow, Cond.selects RX7 yX7_spareLikeNow yX7_spareLikeNow, Cond.initialized RX7, Cond.code yX7_spareLikeNow cX7_spareLikeNow 1 (some (.object "DriftGrinders$Grinder")), Cond.fieldLink RX7 30 "DriftGrinders" "spare" "LDriftGrinders$Grinder;", Cond.fieldLink RX7 26 "DriftGrinders" "now" "LDriftGrinders$Grinder;", Cond.methodLink RX7 160 yX1_copyFrom, Cond.instanceMethod yX1_copyFrom, Cond.selects RX1 yX1_copyFrom yX1_copyFrom, Cond.initialized RX1, Cond.code yX1_copyFrom cX1_copyFrom 2 none, Cond.fieldLink RX1 12 "DriftGrinders$Grinder" "hopper" "LDriftGrinders$Hopper;", Cond.fieldLink RX1 21 "DriftGrinders$Grinder" "burr0" "LDriftGrinders$Burr;", Cond.fieldLink RX1 25 "DriftGrinders$Grinder" "burr1" "LDriftGrinders$Burr;", Cond.fieldLink RX1 33 "DriftGrinders$Grinder" "chute" "LDriftGrinders$Row;", Cond.fieldLink RX1 37 "DriftGrinders$Grinder" "basket" "LDriftGrinders$Row;", Cond.fieldLink RX1 43 "DriftGrinders$Grinder" "shots" "LDriftGrinders$Shots;", Cond.fieldLink RX1 47 "DriftGrinders$Grinder" "settings" "[I", Cond.methodLink RX1 64 arraycopyName, Cond.native arraycopyName, Cond.static arraycopyName, Cond.initialized "java/lang/System", Cond.fieldLink RX1 70 "DriftGrinders$Grinder" "second" "I"]
def wsX7_correct_r2 : List Cond := [Cond.fieldLink RX1 74 "DriftGrinders$Grinder" "filled" "I", Cond.fieldLink RX1 77 "DriftGrinders$Grinder" "ground" "I", Cond.fieldLink RX1 80 "DriftGrinders$Grinder" "brewed" "I", Cond.fieldLink RX1 83 "DriftGrinders$Grinder" "purged" "I", Cond.fieldLink RX1 86 "DriftGrinders$Grinder" "shotsNearTarget" "I", Cond.methodLink RX1 51 yX3_copyFrom, Cond.instanceMethod yX3_copyFrom, Cond.selects RX3 yX3_copyFrom yX3_copyFrom, Cond.initialized RX3, Cond.code yX3_copyFrom cX3_copyFrom 2 none, Cond.fieldLink RX3 14 "DriftGrinders$Hopper" "lots" "LDriftGrinders$Row;", Cond.methodLink RX3 20 yX5_copyFrom, Cond.instanceMethod yX5_copyFrom, Cond.selects RX5 yX5_copyFrom yX5_copyFrom, Cond.initialized RX5, Cond.code yX5_copyFrom cX5_copyFrom 2 none, Cond.fieldLink RX5 16 "DriftGrinders$Row" "length" "I", Cond.fieldLink RX5 7 "DriftGrinders$Row" "amounts" "[I", Cond.methodLink RX5 20 Lib.Math.min.name, Cond.static Lib.Math.min.name, Cond.initialized "java/lang/Math", Cond.code Lib.Math.min.name Lib.Math.min.code 2 (some .int), Cond.fieldLink RX5 26 "DriftGrinders$Row" "total" "I", Cond.methodLink RX5 29 arraycopyName]
def wsX7_correct_r3 : List Cond := [Cond.fieldLink RX5 13 "DriftGrinders$Row" "marks" "[I", Cond.methodLink RX1 55 yX0_copyFrom, Cond.instanceMethod yX0_copyFrom, Cond.selects RX0 yX0_copyFrom yX0_copyFrom, Cond.initialized RX0, Cond.code yX0_copyFrom cX0_copyFrom 2 none, Cond.fieldLink RX0 9 "DriftGrinders$Burr" "dial" "I", Cond.fieldLink RX0 15 "DriftGrinders$Burr" "warmth" "I", Cond.fieldLink RX0 18 "DriftGrinders$Burr" "ground" "I", Cond.fieldLink RX0 21 "DriftGrinders$Burr" "corrections" "I", Cond.methodLink RX1 58 yX5_copyFrom, Cond.methodLink RX1 61 yX6_copyFrom, Cond.instanceMethod yX6_copyFrom, Cond.selects RX6 yX6_copyFrom yX6_copyFrom, Cond.initialized RX6, Cond.code yX6_copyFrom cX6_copyFrom 2 none, Cond.fieldLink RX6 11 "DriftGrinders$Shots" "facts" "[I", Cond.methodLink RX6 15 arraycopyName, Cond.fieldLink RX6 21 "DriftGrinders$Shots" "kept" "I", Cond.fieldLink RX6 25 "DriftGrinders$Shots" "made" "I", Cond.methodLink RX7 61 yX1_correctByLatest, Cond.instanceMethod yX1_correctByLatest, Cond.selects RX1 yX1_correctByLatest yX1_correctByLatest, Cond.code yX1_correctByLatest cX1_correctByLatest 3 (some .int)]
def wsX7_correct_r4 : List Cond := [Cond.constant RX1 93 (-1000001), Cond.constant RX1 107 (-1000002), Cond.static yX7_isZeroOrOne, Cond.code yX7_isZeroOrOne cX7_isZeroOrOne 1 (some .boolean), Cond.methodLink RX1 117 yX1_burrNumbered, Cond.instanceMethod yX1_burrNumbered, Cond.selects RX1 yX1_burrNumbered yX1_burrNumbered, Cond.code yX1_burrNumbered cX1_burrNumbered 2 (some (.object "DriftGrinders$Burr")), Cond.methodLink RX1 197 yX6_latestTime, Cond.instanceMethod yX6_latestTime, Cond.selects RX6 yX6_latestTime yX6_latestTime, Cond.code yX6_latestTime cX6_latestTime 1 (some .int), Cond.methodLink RX1 170 yX0_correctBy, Cond.instanceMethod yX0_correctBy, Cond.selects RX0 yX0_correctBy yX0_correctBy, Cond.code yX0_correctBy cX0_correctBy 4 none, Cond.methodLink RX0 28 Lib.Math.max.name, Cond.static Lib.Math.max.name, Cond.code Lib.Math.max.name Lib.Math.max.code 2 (some .int), Cond.methodLink RX0 34 Lib.Math.min.name, Cond.methodLink RX7 41 yX7_keepIfDone, Cond.instanceMethod yX7_keepIfDone, Cond.selects RX7 yX7_keepIfDone yX7_keepIfDone, Cond.code yX7_keepIfDone cX7_keepIfDone 3 (some .int)]
def wsX7_correct_r5 : List Cond := [Cond.fieldLink RX7 10 "DriftGrinders" "history" "LDriftGrinders$History;", Cond.methodLink RX7 163 yX2_add, Cond.instanceMethod yX2_add, Cond.selects RX2 yX2_add yX2_add, Cond.initialized RX2, Cond.code yX2_add cX2_add 3 (some (.object "DriftGrinders$Grinder")), Cond.fieldLink RX2 24 "DriftGrinders$History" "oldest" "LDriftGrinders$Grinder;", Cond.fieldLink RX2 21 "DriftGrinders$History" "third" "LDriftGrinders$Grinder;", Cond.fieldLink RX2 18 "DriftGrinders$History" "second" "LDriftGrinders$Grinder;", Cond.fieldLink RX2 12 "DriftGrinders$History" "latest" "LDriftGrinders$Grinder;", Cond.fieldLink RX2 27 "DriftGrinders$History" "states" "I", Cond.methodLink RX2 31 Lib.Math.min.name]
def wsX7_correct : List Cond := .code yX7_correct cX7_correct 2 (some .int) :: ((wsX7_correct_r1 ++ (wsX7_correct_r2 ++ (wsX7_correct_r3 ++ (wsX7_correct_r4 ++ wsX7_correct_r5)))) ++ wsX70 ++ wsX10 ++ wsX30 ++ wsX50 ++ wsX00 ++ wsX60 ++ wsX20)
def wsX7_set_r1 : List Cond := [Cond.methodLink RX7 33 yX7_spareLikeNow, Cond.instanceMethod yX7_spareLikeNow, Cond.selects RX7 yX7_spareLikeNow yX7_spareLikeNow, Cond.initialized RX7, Cond.code yX7_spareLikeNow cX7_spareLikeNow 1 (some (.object "DriftGrinders$Grinder")), Cond.fieldLink RX7 30 "DriftGrinders" "spare" "LDriftGrinders$Grinder;", Cond.fieldLink RX7 26 "DriftGrinders" "now" "LDriftGrinders$Grinder;", Cond.methodLink RX7 160 yX1_copyFrom, Cond.instanceMethod yX1_copyFrom, Cond.selects RX1 yX1_copyFrom yX1_copyFrom, Cond.initialized RX1, Cond.code yX1_copyFrom cX1_copyFrom 2 none, Cond.fieldLink RX1 12 "DriftGrinders$Grinder" "hopper" "LDriftGrinders$Hopper;", Cond.fieldLink RX1 21 "DriftGrinders$Grinder" "burr0" "LDriftGrinders$Burr;", Cond.fieldLink RX1 25 "DriftGrinders$Grinder" "burr1" "LDriftGrinders$Burr;", Cond.fieldLink RX1 33 "DriftGrinders$Grinder" "chute" "LDriftGrinders$Row;", Cond.fieldLink RX1 37 "DriftGrinders$Grinder" "basket" "LDriftGrinders$Row;", Cond.fieldLink RX1 43 "DriftGrinders$Grinder" "shots" "LDriftGrinders$Shots;", Cond.fieldLink RX1 47 "DriftGrinders$Grinder" "settings" "[I", Cond.methodLink RX1 64 arraycopyName, Cond.native arraycopyName, Cond.static arraycopyName, Cond.initialized "java/lang/System", Cond.fieldLink RX1 70 "DriftGrinders$Grinder" "second" "I"]
def wsX7_set_r2 : List Cond := [Cond.fieldLink RX1 74 "DriftGrinders$Grinder" "filled" "I", Cond.fieldLink RX1 77 "DriftGrinders$Grinder" "ground" "I", Cond.fieldLink RX1 80 "DriftGrinders$Grinder" "brewed" "I", Cond.fieldLink RX1 83 "DriftGrinders$Grinder" "purged" "I", Cond.fieldLink RX1 86 "DriftGrinders$Grinder" "shotsNearTarget" "I", Cond.methodLink RX1 51 yX3_copyFrom, Cond.instanceMethod yX3_copyFrom, Cond.selects RX3 yX3_copyFrom yX3_copyFrom, Cond.initialized RX3, Cond.code yX3_copyFrom cX3_copyFrom 2 none, Cond.fieldLink RX3 14 "DriftGrinders$Hopper" "lots" "LDriftGrinders$Row;", Cond.methodLink RX3 20 yX5_copyFrom, Cond.instanceMethod yX5_copyFrom, Cond.selects RX5 yX5_copyFrom yX5_copyFrom, Cond.initialized RX5, Cond.code yX5_copyFrom cX5_copyFrom 2 none, Cond.fieldLink RX5 16 "DriftGrinders$Row" "length" "I", Cond.fieldLink RX5 7 "DriftGrinders$Row" "amounts" "[I", Cond.methodLink RX5 20 Lib.Math.min.name, Cond.static Lib.Math.min.name, Cond.initialized "java/lang/Math", Cond.code Lib.Math.min.name Lib.Math.min.code 2 (some .int), Cond.fieldLink RX5 26 "DriftGrinders$Row" "total" "I", Cond.methodLink RX5 29 arraycopyName]
def wsX7_set_r3 : List Cond := [Cond.fieldLink RX5 13 "DriftGrinders$Row" "marks" "[I", Cond.methodLink RX1 55 yX0_copyFrom, Cond.instanceMethod yX0_copyFrom, Cond.selects RX0 yX0_copyFrom yX0_copyFrom, Cond.initialized RX0, Cond.code yX0_copyFrom cX0_copyFrom 2 none, Cond.fieldLink RX0 9 "DriftGrinders$Burr" "dial" "I", Cond.fieldLink RX0 15 "DriftGrinders$Burr" "warmth" "I", Cond.fieldLink RX0 18 "DriftGrinders$Burr" "ground" "I", Cond.fieldLink RX0 21 "DriftGrinders$Burr" "corrections" "I", Cond.methodLink RX1 58 yX5_copyFrom, Cond.methodLink RX1 61 yX6_copyFrom, Cond.instanceMethod yX6_copyFrom, Cond.selects RX6 yX6_copyFrom yX6_copyFrom, Cond.initialized RX6, Cond.code yX6_copyFrom cX6_copyFrom 2 none, Cond.fieldLink RX6 11 "DriftGrinders$Shots" "facts" "[I", Cond.methodLink RX6 15 arraycopyName, Cond.fieldLink RX6 21 "DriftGrinders$Shots" "kept" "I", Cond.fieldLink RX6 25 "DriftGrinders$Shots" "made" "I", Cond.methodLink RX7 64 yX1_changeSetting, Cond.instanceMethod yX1_changeSetting, Cond.selects RX1 yX1_changeSetting yX1_changeSetting, Cond.code yX1_changeSetting cX1_changeSetting 4 (some .int)]
def wsX7_set_r4 : List Cond := [Cond.constant RX1 93 (-1000001), Cond.methodLink RX7 41 yX7_keepIfDone, Cond.instanceMethod yX7_keepIfDone, Cond.selects RX7 yX7_keepIfDone yX7_keepIfDone, Cond.code yX7_keepIfDone cX7_keepIfDone 3 (some .int), Cond.fieldLink RX7 10 "DriftGrinders" "history" "LDriftGrinders$History;", Cond.methodLink RX7 163 yX2_add, Cond.instanceMethod yX2_add, Cond.selects RX2 yX2_add yX2_add, Cond.initialized RX2, Cond.code yX2_add cX2_add 3 (some (.object "DriftGrinders$Grinder")), Cond.fieldLink RX2 24 "DriftGrinders$History" "oldest" "LDriftGrinders$Grinder;", Cond.fieldLink RX2 21 "DriftGrinders$History" "third" "LDriftGrinders$Grinder;", Cond.fieldLink RX2 18 "DriftGrinders$History" "second" "LDriftGrinders$Grinder;", Cond.fieldLink RX2 12 "DriftGrinders$History" "latest" "LDriftGrinders$Grinder;", Cond.fieldLink RX2 27 "DriftGrinders$History" "states" "I", Cond.methodLink RX2 31 Lib.Math.min.name]
def wsX7_set : List Cond := .code yX7_set cX7_set 3 (some .int) :: ((wsX7_set_r1 ++ (wsX7_set_r2 ++ (wsX7_set_r3 ++ wsX7_set_r4))) ++ wsX70 ++ wsX10 ++ wsX30 ++ wsX50 ++ wsX00 ++ wsX60 ++ wsX20)
def wsX7_burrOf_r1 : List Cond := [Cond.constant RX7 71 (-1000001), Cond.fieldLink RX7 26 "DriftGrinders" "now" "LDriftGrinders$Grinder;", Cond.methodLink RX7 67 yX7_isZeroOrOne, Cond.static yX7_isZeroOrOne, Cond.initialized RX7, Cond.code yX7_isZeroOrOne cX7_isZeroOrOne 1 (some .boolean), Cond.methodLink RX7 72 yX1_burrNumbered, Cond.instanceMethod yX1_burrNumbered, Cond.selects RX1 yX1_burrNumbered yX1_burrNumbered, Cond.initialized RX1, Cond.code yX1_burrNumbered cX1_burrNumbered 2 (some (.object "DriftGrinders$Burr")), Cond.fieldLink RX1 21 "DriftGrinders$Grinder" "burr0" "LDriftGrinders$Burr;", Cond.fieldLink RX1 25 "DriftGrinders$Grinder" "burr1" "LDriftGrinders$Burr;", Cond.methodLink RX7 76 yX0_tell, Cond.instanceMethod yX0_tell, Cond.selects RX0 yX0_tell yX0_tell, Cond.initialized RX0, Cond.code yX0_tell cX0_tell 2 (some .int), Cond.fieldLink RX0 9 "DriftGrinders$Burr" "dial" "I", Cond.fieldLink RX0 15 "DriftGrinders$Burr" "warmth" "I", Cond.fieldLink RX0 18 "DriftGrinders$Burr" "ground" "I", Cond.fieldLink RX0 21 "DriftGrinders$Burr" "corrections" "I", Cond.methodLink RX0 40 yX0_gap, Cond.instanceMethod yX0_gap]
def wsX7_burrOf_r2 : List Cond := [Cond.selects RX0 yX0_gap yX0_gap, Cond.code yX0_gap cX0_gap 1 (some .int), Cond.methodLink RX0 24 yX0_gapAt, Cond.instanceMethod yX0_gapAt, Cond.selects RX0 yX0_gapAt yX0_gapAt, Cond.code yX0_gapAt cX0_gapAt 2 (some .int), Cond.methodLink RX0 28 Lib.Math.max.name, Cond.static Lib.Math.max.name, Cond.initialized "java/lang/Math", Cond.code Lib.Math.max.name Lib.Math.max.code 2 (some .int)]
def wsX7_burrOf : List Cond := .code yX7_burrOf cX7_burrOf 3 (some .int) :: ((wsX7_burrOf_r1 ++ wsX7_burrOf_r2) ++ wsX70 ++ wsX10 ++ wsX00)
def wsX7_lotOf : List Cond := .code yX7_lotOf cX7_lotOf 3 (some .int) :: ([.constant RX7 71 (-1000001), .fieldLink RX7 26 "DriftGrinders" "now" "LDriftGrinders$Grinder;", .methodLink RX7 85 yX3_tell, .instanceMethod yX3_tell, .selects RX3 yX3_tell yX3_tell, .initialized RX3, .code yX3_tell cX3_tell 3 (some .int), .fieldLink RX3 14 "DriftGrinders$Hopper" "lots" "LDriftGrinders$Row;", .constant RX3 54 (-1000004), .methodLink RX3 35 yX5_markAt, .instanceMethod yX5_markAt, .selects RX5 yX5_markAt yX5_markAt, .initialized RX5, .code yX5_markAt cX5_markAt 2 (some .int), .fieldLink RX5 16 "DriftGrinders$Row" "length" "I", .fieldLink RX5 13 "DriftGrinders$Row" "marks" "[I", .methodLink RX3 55 yX5_amountAt, .instanceMethod yX5_amountAt, .selects RX5 yX5_amountAt yX5_amountAt, .code yX5_amountAt cX5_amountAt 2 (some .int), .fieldLink RX5 7 "DriftGrinders$Row" "amounts" "[I"] ++ wsX70 ++ wsX10 ++ wsX30 ++ wsX50)
def wsX7_portionOf_r1 : List Cond := [Cond.constant RX7 71 (-1000001), Cond.fieldLink RX7 26 "DriftGrinders" "now" "LDriftGrinders$Grinder;", Cond.methodLink RX7 67 yX7_isZeroOrOne, Cond.static yX7_isZeroOrOne, Cond.initialized RX7, Cond.code yX7_isZeroOrOne cX7_isZeroOrOne 1 (some .boolean), Cond.methodLink RX7 96 yX1_tellPortion, Cond.instanceMethod yX1_tellPortion, Cond.selects RX1 yX1_tellPortion yX1_tellPortion, Cond.initialized RX1, Cond.code yX1_tellPortion cX1_tellPortion 5 (some .int), Cond.constant RX1 206 (-1000004), Cond.methodLink RX1 176 yX5_markAt, Cond.instanceMethod yX5_markAt, Cond.selects RX5 yX5_markAt yX5_markAt, Cond.initialized RX5, Cond.code yX5_markAt cX5_markAt 2 (some .int), Cond.fieldLink RX5 16 "DriftGrinders$Row" "length" "I", Cond.fieldLink RX5 13 "DriftGrinders$Row" "marks" "[I", Cond.methodLink RX1 173 yX5_amountAt, Cond.instanceMethod yX5_amountAt, Cond.selects RX5 yX5_amountAt yX5_amountAt, Cond.code yX5_amountAt cX5_amountAt 2 (some .int), Cond.fieldLink RX5 7 "DriftGrinders$Row" "amounts" "[I"]
def wsX7_portionOf_r2 : List Cond := [Cond.static yX7_kindOfMark, Cond.code yX7_kindOfMark cX7_kindOfMark 1 (some .int), Cond.static yX7_burrOfMark, Cond.code yX7_burrOfMark cX7_burrOfMark 1 (some .int), Cond.static yX7_gapOfMark, Cond.code yX7_gapOfMark cX7_gapOfMark 1 (some .int), Cond.methodLink RX1 179 yX1_flowOfMark, Cond.instanceMethod yX1_flowOfMark, Cond.selects RX1 yX1_flowOfMark yX1_flowOfMark, Cond.code yX1_flowOfMark cX1_flowOfMark 2 (some .int), Cond.methodLink RX1 185 yX1_hardnessOf, Cond.instanceMethod yX1_hardnessOf, Cond.selects RX1 yX1_hardnessOf yX1_hardnessOf, Cond.code yX1_hardnessOf cX1_hardnessOf 2 (some .int), Cond.fieldLink RX1 47 "DriftGrinders$Grinder" "settings" "[I", Cond.static yX7_flowOf, Cond.code yX7_flowOf cX7_flowOf 2 (some .int)]
def wsX7_portionOf : List Cond := .code yX7_portionOf cX7_portionOf 4 (some .int) :: ((wsX7_portionOf_r1 ++ wsX7_portionOf_r2) ++ wsX70 ++ wsX10 ++ wsX50)
def wsX7_shotOf : List Cond := .code yX7_shotOf cX7_shotOf 3 (some .int) :: ([.constant RX7 71 (-1000001), .fieldLink RX7 26 "DriftGrinders" "now" "LDriftGrinders$Grinder;", .methodLink RX7 108 yX6_tell, .instanceMethod yX6_tell, .selects RX6 yX6_tell yX6_tell, .initialized RX6, .code yX6_tell cX6_tell 4 (some .int), .fieldLink RX6 21 "DriftGrinders$Shots" "kept" "I", .constant RX6 34 (-1000004), .fieldLink RX6 11 "DriftGrinders$Shots" "facts" "[I", .methodLink RX6 35 yX6_awayFrom, .instanceMethod yX6_awayFrom, .selects RX6 yX6_awayFrom yX6_awayFrom, .code yX6_awayFrom cX6_awayFrom 3 (some .int), .methodLink RX6 38 Lib.Math.abs.name, .static Lib.Math.abs.name, .initialized "java/lang/Math", .code Lib.Math.abs.name Lib.Math.abs.code 1 (some .int)] ++ wsX70 ++ wsX10 ++ wsX60)
def wsX7_best : List Cond := .code yX7_best cX7_best 2 (some .int) :: ([.constant RX7 71 (-1000001), .fieldLink RX7 26 "DriftGrinders" "now" "LDriftGrinders$Grinder;", .methodLink RX7 113 yX6_numberAtPlace, .instanceMethod yX6_numberAtPlace, .selects RX6 yX6_numberAtPlace yX6_numberAtPlace, .initialized RX6, .code yX6_numberAtPlace cX6_numberAtPlace 4 (some .int), .fieldLink RX6 21 "DriftGrinders$Shots" "kept" "I", .fieldLink RX6 11 "DriftGrinders$Shots" "facts" "[I", .constant RX6 34 (-1000004), .methodLink RX6 42 yX6_placeOf, .instanceMethod yX6_placeOf, .selects RX6 yX6_placeOf yX6_placeOf, .code yX6_placeOf cX6_placeOf 7 (some .int), .methodLink RX6 35 yX6_awayFrom, .instanceMethod yX6_awayFrom, .selects RX6 yX6_awayFrom yX6_awayFrom, .code yX6_awayFrom cX6_awayFrom 3 (some .int), .methodLink RX6 38 Lib.Math.abs.name, .static Lib.Math.abs.name, .initialized "java/lang/Math", .code Lib.Math.abs.name Lib.Math.abs.code 1 (some .int)] ++ wsX70 ++ wsX10 ++ wsX60)
def wsX7_wouldTake_r1 : List Cond := [Cond.methodLink RX7 33 yX7_spareLikeNow, Cond.instanceMethod yX7_spareLikeNow, Cond.selects RX7 yX7_spareLikeNow yX7_spareLikeNow, Cond.initialized RX7, Cond.code yX7_spareLikeNow cX7_spareLikeNow 1 (some (.object "DriftGrinders$Grinder")), Cond.fieldLink RX7 30 "DriftGrinders" "spare" "LDriftGrinders$Grinder;", Cond.fieldLink RX7 26 "DriftGrinders" "now" "LDriftGrinders$Grinder;", Cond.methodLink RX7 160 yX1_copyFrom, Cond.instanceMethod yX1_copyFrom, Cond.selects RX1 yX1_copyFrom yX1_copyFrom, Cond.initialized RX1, Cond.code yX1_copyFrom cX1_copyFrom 2 none, Cond.fieldLink RX1 12 "DriftGrinders$Grinder" "hopper" "LDriftGrinders$Hopper;", Cond.fieldLink RX1 21 "DriftGrinders$Grinder" "burr0" "LDriftGrinders$Burr;", Cond.fieldLink RX1 25 "DriftGrinders$Grinder" "burr1" "LDriftGrinders$Burr;", Cond.fieldLink RX1 33 "DriftGrinders$Grinder" "chute" "LDriftGrinders$Row;", Cond.fieldLink RX1 37 "DriftGrinders$Grinder" "basket" "LDriftGrinders$Row;", Cond.fieldLink RX1 43 "DriftGrinders$Grinder" "shots" "LDriftGrinders$Shots;", Cond.fieldLink RX1 47 "DriftGrinders$Grinder" "settings" "[I", Cond.methodLink RX1 64 arraycopyName, Cond.native arraycopyName, Cond.static arraycopyName, Cond.initialized "java/lang/System", Cond.fieldLink RX1 70 "DriftGrinders$Grinder" "second" "I"]
def wsX7_wouldTake_r2 : List Cond := [Cond.fieldLink RX1 74 "DriftGrinders$Grinder" "filled" "I", Cond.fieldLink RX1 77 "DriftGrinders$Grinder" "ground" "I", Cond.fieldLink RX1 80 "DriftGrinders$Grinder" "brewed" "I", Cond.fieldLink RX1 83 "DriftGrinders$Grinder" "purged" "I", Cond.fieldLink RX1 86 "DriftGrinders$Grinder" "shotsNearTarget" "I", Cond.methodLink RX1 51 yX3_copyFrom, Cond.instanceMethod yX3_copyFrom, Cond.selects RX3 yX3_copyFrom yX3_copyFrom, Cond.initialized RX3, Cond.code yX3_copyFrom cX3_copyFrom 2 none, Cond.fieldLink RX3 14 "DriftGrinders$Hopper" "lots" "LDriftGrinders$Row;", Cond.methodLink RX3 20 yX5_copyFrom, Cond.instanceMethod yX5_copyFrom, Cond.selects RX5 yX5_copyFrom yX5_copyFrom, Cond.initialized RX5, Cond.code yX5_copyFrom cX5_copyFrom 2 none, Cond.fieldLink RX5 16 "DriftGrinders$Row" "length" "I", Cond.fieldLink RX5 7 "DriftGrinders$Row" "amounts" "[I", Cond.methodLink RX5 20 Lib.Math.min.name, Cond.static Lib.Math.min.name, Cond.initialized "java/lang/Math", Cond.code Lib.Math.min.name Lib.Math.min.code 2 (some .int), Cond.fieldLink RX5 26 "DriftGrinders$Row" "total" "I", Cond.methodLink RX5 29 arraycopyName]
def wsX7_wouldTake_r3 : List Cond := [Cond.fieldLink RX5 13 "DriftGrinders$Row" "marks" "[I", Cond.methodLink RX1 55 yX0_copyFrom, Cond.instanceMethod yX0_copyFrom, Cond.selects RX0 yX0_copyFrom yX0_copyFrom, Cond.initialized RX0, Cond.code yX0_copyFrom cX0_copyFrom 2 none, Cond.fieldLink RX0 9 "DriftGrinders$Burr" "dial" "I", Cond.fieldLink RX0 15 "DriftGrinders$Burr" "warmth" "I", Cond.fieldLink RX0 18 "DriftGrinders$Burr" "ground" "I", Cond.fieldLink RX0 21 "DriftGrinders$Burr" "corrections" "I", Cond.methodLink RX1 58 yX5_copyFrom, Cond.methodLink RX1 61 yX6_copyFrom, Cond.instanceMethod yX6_copyFrom, Cond.selects RX6 yX6_copyFrom yX6_copyFrom, Cond.initialized RX6, Cond.code yX6_copyFrom cX6_copyFrom 2 none, Cond.fieldLink RX6 11 "DriftGrinders$Shots" "facts" "[I", Cond.methodLink RX6 15 arraycopyName, Cond.fieldLink RX6 21 "DriftGrinders$Shots" "kept" "I", Cond.fieldLink RX6 25 "DriftGrinders$Shots" "made" "I", Cond.methodLink RX7 45 yX1_grindBy, Cond.instanceMethod yX1_grindBy, Cond.selects RX1 yX1_grindBy yX1_grindBy, Cond.code yX1_grindBy cX1_grindBy 5 (some .int)]
def wsX7_wouldTake_r4 : List Cond := [Cond.constant RX1 93 (-1000001), Cond.constant RX1 107 (-1000002), Cond.methodLink RX1 111 Lib.Math.max.name, Cond.static Lib.Math.max.name, Cond.code Lib.Math.max.name Lib.Math.max.code 2 (some .int), Cond.constant RX1 98 (-1000003), Cond.static yX7_isZeroOrOne, Cond.code yX7_isZeroOrOne cX7_isZeroOrOne 1 (some .boolean), Cond.methodLink RX1 103 yX3_amount, Cond.instanceMethod yX3_amount, Cond.selects RX3 yX3_amount yX3_amount, Cond.code yX3_amount cX3_amount 1 (some .int), Cond.methodLink RX1 117 yX1_burrNumbered, Cond.instanceMethod yX1_burrNumbered, Cond.selects RX1 yX1_burrNumbered yX1_burrNumbered, Cond.code yX1_burrNumbered cX1_burrNumbered 2 (some (.object "DriftGrinders$Burr")), Cond.methodLink RX1 121 yX0_gap, Cond.instanceMethod yX0_gap, Cond.selects RX0 yX0_gap yX0_gap, Cond.code yX0_gap cX0_gap 1 (some .int), Cond.methodLink RX0 24 yX0_gapAt, Cond.instanceMethod yX0_gapAt, Cond.selects RX0 yX0_gapAt yX0_gapAt, Cond.code yX0_gapAt cX0_gapAt 2 (some .int)]
def wsX7_wouldTake_r5 : List Cond := [Cond.methodLink RX0 28 Lib.Math.max.name, Cond.methodLink RX1 124 yX3_letOut, Cond.instanceMethod yX3_letOut, Cond.selects RX3 yX3_letOut yX3_letOut, Cond.code yX3_letOut cX3_letOut 5 none, Cond.static yX7_markOf, Cond.code yX7_markOf cX7_markOf 3 (some .int), Cond.methodLink RX3 50 yX5_letOut, Cond.instanceMethod yX5_letOut, Cond.selects RX5 yX5_letOut yX5_letOut, Cond.code yX5_letOut cX5_letOut 8 none, Cond.methodLink RX5 35 yX5_append, Cond.instanceMethod yX5_append, Cond.selects RX5 yX5_append yX5_append, Cond.code yX5_append cX5_append 3 none, Cond.methodLink RX5 39 yX5_dropFirst, Cond.instanceMethod yX5_dropFirst, Cond.selects RX5 yX5_dropFirst yX5_dropFirst, Cond.code yX5_dropFirst cX5_dropFirst 2 none, Cond.methodLink RX1 128 yX0_warmByGrinding, Cond.instanceMethod yX0_warmByGrinding, Cond.selects RX0 yX0_warmByGrinding yX0_warmByGrinding, Cond.code yX0_warmByGrinding cX0_warmByGrinding 2 none, Cond.methodLink RX0 34 Lib.Math.min.name]
def wsX7_wouldTake_r6 : List Cond := [Cond.methodLink RX1 131 yX5_letOut, Cond.methodLink RX1 134 yX1_passSeconds, Cond.instanceMethod yX1_passSeconds, Cond.selects RX1 yX1_passSeconds yX1_passSeconds, Cond.code yX1_passSeconds cX1_passSeconds 3 none, Cond.methodLink RX1 143 yX0_cool, Cond.instanceMethod yX0_cool, Cond.selects RX0 yX0_cool yX0_cool, Cond.code yX0_cool cX0_cool 3 none, Cond.static yX7_fallOf, Cond.code yX7_fallOf cX7_fallOf 1 (some .int), Cond.methodLink RX7 116 yX1_timeOfBasket, Cond.instanceMethod yX1_timeOfBasket, Cond.selects RX1 yX1_timeOfBasket yX1_timeOfBasket, Cond.code yX1_timeOfBasket cX1_timeOfBasket 3 (some .int), Cond.methodLink RX1 173 yX5_amountAt, Cond.instanceMethod yX5_amountAt, Cond.selects RX5 yX5_amountAt yX5_amountAt, Cond.code yX5_amountAt cX5_amountAt 2 (some .int), Cond.methodLink RX1 176 yX5_markAt, Cond.instanceMethod yX5_markAt, Cond.selects RX5 yX5_markAt yX5_markAt, Cond.code yX5_markAt cX5_markAt 2 (some .int), Cond.methodLink RX1 179 yX1_flowOfMark]
def wsX7_wouldTake_r7 : List Cond := [Cond.instanceMethod yX1_flowOfMark, Cond.selects RX1 yX1_flowOfMark yX1_flowOfMark, Cond.code yX1_flowOfMark cX1_flowOfMark 2 (some .int), Cond.static yX7_kindOfMark, Cond.code yX7_kindOfMark cX7_kindOfMark 1 (some .int), Cond.methodLink RX1 185 yX1_hardnessOf, Cond.instanceMethod yX1_hardnessOf, Cond.selects RX1 yX1_hardnessOf yX1_hardnessOf, Cond.code yX1_hardnessOf cX1_hardnessOf 2 (some .int), Cond.static yX7_gapOfMark, Cond.code yX7_gapOfMark cX7_gapOfMark 1 (some .int), Cond.static yX7_flowOf, Cond.code yX7_flowOf cX7_flowOf 2 (some .int)]
def wsX7_wouldTake : List Cond := .code yX7_wouldTake cX7_wouldTake 5 (some .int) :: ((wsX7_wouldTake_r1 ++ (wsX7_wouldTake_r2 ++ (wsX7_wouldTake_r3 ++ (wsX7_wouldTake_r4 ++ (wsX7_wouldTake_r5 ++ (wsX7_wouldTake_r6 ++ wsX7_wouldTake_r7)))))) ++ wsX70 ++ wsX10 ++ wsX30 ++ wsX50 ++ wsX00 ++ wsX60)
def wsX7_dialFor_r1 : List Cond := [Cond.constant RX7 71 (-1000001), Cond.fieldLink RX7 26 "DriftGrinders" "now" "LDriftGrinders$Grinder;", Cond.methodLink RX7 67 yX7_isZeroOrOne, Cond.static yX7_isZeroOrOne, Cond.initialized RX7, Cond.code yX7_isZeroOrOne cX7_isZeroOrOne 1 (some .boolean), Cond.methodLink RX7 72 yX1_burrNumbered, Cond.instanceMethod yX1_burrNumbered, Cond.selects RX1 yX1_burrNumbered yX1_burrNumbered, Cond.initialized RX1, Cond.code yX1_burrNumbered cX1_burrNumbered 2 (some (.object "DriftGrinders$Burr")), Cond.fieldLink RX1 21 "DriftGrinders$Grinder" "burr0" "LDriftGrinders$Burr;", Cond.fieldLink RX1 25 "DriftGrinders$Grinder" "burr1" "LDriftGrinders$Burr;", Cond.methodLink RX7 119 yX1_nearestDial, Cond.instanceMethod yX1_nearestDial, Cond.selects RX1 yX1_nearestDial yX1_nearestDial, Cond.code yX1_nearestDial cX1_nearestDial 5 (some .int), Cond.methodLink RX1 210 yX1_awayAtDial, Cond.instanceMethod yX1_awayAtDial, Cond.selects RX1 yX1_awayAtDial yX1_awayAtDial, Cond.code yX1_awayAtDial cX1_awayAtDial 4 (some .int), Cond.fieldLink RX1 47 "DriftGrinders$Grinder" "settings" "[I", Cond.methodLink RX1 166 Lib.Math.abs.name, Cond.static Lib.Math.abs.name]
def wsX7_dialFor_r2 : List Cond := [Cond.initialized "java/lang/Math", Cond.code Lib.Math.abs.name Lib.Math.abs.code 1 (some .int), Cond.methodLink RX1 185 yX1_hardnessOf, Cond.instanceMethod yX1_hardnessOf, Cond.selects RX1 yX1_hardnessOf yX1_hardnessOf, Cond.code yX1_hardnessOf cX1_hardnessOf 2 (some .int), Cond.methodLink RX1 214 yX0_gapAt, Cond.instanceMethod yX0_gapAt, Cond.selects RX0 yX0_gapAt yX0_gapAt, Cond.initialized RX0, Cond.code yX0_gapAt cX0_gapAt 2 (some .int), Cond.fieldLink RX0 15 "DriftGrinders$Burr" "warmth" "I", Cond.methodLink RX0 28 Lib.Math.max.name, Cond.static Lib.Math.max.name, Cond.code Lib.Math.max.name Lib.Math.max.code 2 (some .int), Cond.static yX7_flowOf, Cond.code yX7_flowOf cX7_flowOf 2 (some .int)]
def wsX7_dialFor : List Cond := .code yX7_dialFor cX7_dialFor 3 (some .int) :: ((wsX7_dialFor_r1 ++ wsX7_dialFor_r2) ++ wsX70 ++ wsX10 ++ wsX00)
def wsX7_stale_r1 : List Cond := [Cond.constant RX7 71 (-1000001), Cond.fieldLink RX7 26 "DriftGrinders" "now" "LDriftGrinders$Grinder;", Cond.methodLink RX7 67 yX7_isZeroOrOne, Cond.static yX7_isZeroOrOne, Cond.initialized RX7, Cond.code yX7_isZeroOrOne cX7_isZeroOrOne 1 (some .boolean), Cond.methodLink RX7 123 yX1_staleFor, Cond.instanceMethod yX1_staleFor, Cond.selects RX1 yX1_staleFor yX1_staleFor, Cond.initialized RX1, Cond.code yX1_staleFor cX1_staleFor 3 (some .int), Cond.fieldLink RX1 12 "DriftGrinders$Grinder" "hopper" "LDriftGrinders$Hopper;", Cond.constant RX1 107 (-1000002), Cond.fieldLink RX1 33 "DriftGrinders$Grinder" "chute" "LDriftGrinders$Row;", Cond.methodLink RX1 217 yX3_isEmpty, Cond.instanceMethod yX3_isEmpty, Cond.selects RX3 yX3_isEmpty yX3_isEmpty, Cond.initialized RX3, Cond.code yX3_isEmpty cX3_isEmpty 1 (some .boolean), Cond.fieldLink RX3 14 "DriftGrinders$Hopper" "lots" "LDriftGrinders$Row;", Cond.methodLink RX1 221 yX3_firstKind, Cond.instanceMethod yX3_firstKind, Cond.selects RX3 yX3_firstKind yX3_firstKind, Cond.code yX3_firstKind cX3_firstKind 1 (some .int)]
def wsX7_stale_r2 : List Cond := [Cond.methodLink RX3 35 yX5_markAt, Cond.instanceMethod yX5_markAt, Cond.selects RX5 yX5_markAt yX5_markAt, Cond.initialized RX5, Cond.code yX5_markAt cX5_markAt 2 (some .int), Cond.fieldLink RX5 16 "DriftGrinders$Row" "length" "I", Cond.fieldLink RX5 13 "DriftGrinders$Row" "marks" "[I", Cond.methodLink RX1 117 yX1_burrNumbered, Cond.instanceMethod yX1_burrNumbered, Cond.selects RX1 yX1_burrNumbered yX1_burrNumbered, Cond.code yX1_burrNumbered cX1_burrNumbered 2 (some (.object "DriftGrinders$Burr")), Cond.fieldLink RX1 21 "DriftGrinders$Grinder" "burr0" "LDriftGrinders$Burr;", Cond.fieldLink RX1 25 "DriftGrinders$Grinder" "burr1" "LDriftGrinders$Burr;", Cond.methodLink RX1 121 yX0_gap, Cond.instanceMethod yX0_gap, Cond.selects RX0 yX0_gap yX0_gap, Cond.initialized RX0, Cond.code yX0_gap cX0_gap 1 (some .int), Cond.fieldLink RX0 9 "DriftGrinders$Burr" "dial" "I", Cond.methodLink RX0 24 yX0_gapAt, Cond.instanceMethod yX0_gapAt, Cond.selects RX0 yX0_gapAt yX0_gapAt, Cond.code yX0_gapAt cX0_gapAt 2 (some .int), Cond.fieldLink RX0 15 "DriftGrinders$Burr" "warmth" "I"]
def wsX7_stale_r3 : List Cond := [Cond.methodLink RX0 28 Lib.Math.max.name, Cond.static Lib.Math.max.name, Cond.initialized "java/lang/Math", Cond.code Lib.Math.max.name Lib.Math.max.code 2 (some .int), Cond.static yX7_markOf, Cond.code yX7_markOf cX7_markOf 3 (some .int), Cond.methodLink RX1 228 yX5_amountUpToLastUnlike, Cond.instanceMethod yX5_amountUpToLastUnlike, Cond.selects RX5 yX5_amountUpToLastUnlike yX5_amountUpToLastUnlike, Cond.code yX5_amountUpToLastUnlike cX5_amountUpToLastUnlike 5 (some .int), Cond.fieldLink RX5 7 "DriftGrinders$Row" "amounts" "[I"]
def wsX7_stale : List Cond := .code yX7_stale cX7_stale 2 (some .int) :: ((wsX7_stale_r1 ++ (wsX7_stale_r2 ++ wsX7_stale_r3)) ++ wsX70 ++ wsX10 ++ wsX30 ++ wsX50 ++ wsX00)
def wsX7_coolAfter_r1 : List Cond := [Cond.constant RX7 71 (-1000001), Cond.fieldLink RX7 26 "DriftGrinders" "now" "LDriftGrinders$Grinder;", Cond.methodLink RX7 67 yX7_isZeroOrOne, Cond.static yX7_isZeroOrOne, Cond.initialized RX7, Cond.code yX7_isZeroOrOne cX7_isZeroOrOne 1 (some .boolean), Cond.methodLink RX7 72 yX1_burrNumbered, Cond.instanceMethod yX1_burrNumbered, Cond.selects RX1 yX1_burrNumbered yX1_burrNumbered, Cond.initialized RX1, Cond.code yX1_burrNumbered cX1_burrNumbered 2 (some (.object "DriftGrinders$Burr")), Cond.fieldLink RX1 21 "DriftGrinders$Grinder" "burr0" "LDriftGrinders$Burr;", Cond.fieldLink RX1 25 "DriftGrinders$Grinder" "burr1" "LDriftGrinders$Burr;", Cond.methodLink RX7 126 yX1_secondsToCool, Cond.instanceMethod yX1_secondsToCool, Cond.selects RX1 yX1_secondsToCool yX1_secondsToCool, Cond.code yX1_secondsToCool cX1_secondsToCool 4 (some .int), Cond.fieldLink RX1 70 "DriftGrinders$Grinder" "second" "I", Cond.methodLink RX1 231 yX0_coolingsTo, Cond.instanceMethod yX0_coolingsTo, Cond.selects RX0 yX0_coolingsTo yX0_coolingsTo, Cond.initialized RX0, Cond.code yX0_coolingsTo cX0_coolingsTo 4 (some .int), Cond.fieldLink RX0 15 "DriftGrinders$Burr" "warmth" "I"]
def wsX7_coolAfter_r2 : List Cond := [Cond.static yX7_fallOf, Cond.code yX7_fallOf cX7_fallOf 1 (some .int)]
def wsX7_coolAfter : List Cond := .code yX7_coolAfter cX7_coolAfter 3 (some .int) :: ((wsX7_coolAfter_r1 ++ wsX7_coolAfter_r2) ++ wsX70 ++ wsX10 ++ wsX00)
def wsX7_count_r1 : List Cond := [Cond.fieldLink RX7 10 "DriftGrinders" "history" "LDriftGrinders$History;", Cond.fieldLink RX7 19 "DriftGrinders" "text" "LDriftGrinders$Orders;", Cond.fieldLink RX7 26 "DriftGrinders" "now" "LDriftGrinders$Grinder;", Cond.methodLink RX7 136 yX1_tell, Cond.instanceMethod yX1_tell, Cond.selects RX1 yX1_tell yX1_tell, Cond.initialized RX1, Cond.code yX1_tell cX1_tell 2 (some .int), Cond.fieldLink RX1 70 "DriftGrinders$Grinder" "second" "I", Cond.fieldLink RX1 74 "DriftGrinders$Grinder" "filled" "I", Cond.fieldLink RX1 77 "DriftGrinders$Grinder" "ground" "I", Cond.fieldLink RX1 80 "DriftGrinders$Grinder" "brewed" "I", Cond.fieldLink RX1 83 "DriftGrinders$Grinder" "purged" "I", Cond.fieldLink RX1 12 "DriftGrinders$Grinder" "hopper" "LDriftGrinders$Hopper;", Cond.fieldLink RX1 33 "DriftGrinders$Grinder" "chute" "LDriftGrinders$Row;", Cond.fieldLink RX1 37 "DriftGrinders$Grinder" "basket" "LDriftGrinders$Row;", Cond.fieldLink RX1 43 "DriftGrinders$Grinder" "shots" "LDriftGrinders$Shots;", Cond.fieldLink RX1 86 "DriftGrinders$Grinder" "shotsNearTarget" "I", Cond.methodLink RX1 103 yX3_amount, Cond.instanceMethod yX3_amount, Cond.selects RX3 yX3_amount yX3_amount, Cond.initialized RX3, Cond.code yX3_amount cX3_amount 1 (some .int), Cond.fieldLink RX3 14 "DriftGrinders$Hopper" "lots" "LDriftGrinders$Row;"]
def wsX7_count_r2 : List Cond := [Cond.methodLink RX1 237 yX1_tellSetting, Cond.instanceMethod yX1_tellSetting, Cond.selects RX1 yX1_tellSetting yX1_tellSetting, Cond.code yX1_tellSetting cX1_tellSetting 2 (some .int), Cond.fieldLink RX1 47 "DriftGrinders$Grinder" "settings" "[I", Cond.constant RX1 93 (-1000001)]
def wsX7_count : List Cond := .code yX7_count cX7_count 2 (some .int) :: ((wsX7_count_r1 ++ wsX7_count_r2) ++ wsX70 ++ wsX20 ++ wsX40 ++ wsX10 ++ wsX50 ++ wsX60 ++ wsX30)
def wsX7_undo : List Cond := .code yX7_undo cX7_undo 1 (some .int) :: ([.fieldLink RX7 10 "DriftGrinders" "history" "LDriftGrinders$History;", .constant RX7 137 (-1000002), .fieldLink RX7 26 "DriftGrinders" "now" "LDriftGrinders$Grinder;", .methodLink RX7 138 yX2_takeLatest, .instanceMethod yX2_takeLatest, .selects RX2 yX2_takeLatest yX2_takeLatest, .initialized RX2, .code yX2_takeLatest cX2_takeLatest 3 (some (.object "DriftGrinders$Grinder")), .fieldLink RX2 12 "DriftGrinders$History" "latest" "LDriftGrinders$Grinder;", .fieldLink RX2 18 "DriftGrinders$History" "second" "LDriftGrinders$Grinder;", .fieldLink RX2 21 "DriftGrinders$History" "third" "LDriftGrinders$Grinder;", .fieldLink RX2 24 "DriftGrinders$History" "oldest" "LDriftGrinders$Grinder;", .fieldLink RX2 27 "DriftGrinders$History" "states" "I", .methodLink RX2 37 Lib.Math.max.name, .static Lib.Math.max.name, .initialized "java/lang/Math", .code Lib.Math.max.name Lib.Math.max.code 2 (some .int)] ++ wsX70 ++ wsX20)
def wsX7_type : List Cond := .code yX7_type cX7_type 2 (some .int) :: ([.constant RX7 71 (-1000001), .fieldLink RX7 19 "DriftGrinders" "text" "LDriftGrinders$Orders;", .methodLink RX7 142 yX4_append, .instanceMethod yX4_append, .selects RX4 yX4_append yX4_append, .initialized RX4, .code yX4_append cX4_append 2 (some .int), .fieldLink RX4 15 "DriftGrinders$Orders" "length" "I", .constant RX4 19 (-1000003), .fieldLink RX4 9 "DriftGrinders$Orders" "signs" "[C"] ++ wsX70 ++ wsX40)
def wsX7_clearText : List Cond := .code yX7_clearText cX7_clearText 2 (some .int) :: ([.fieldLink RX7 19 "DriftGrinders" "text" "LDriftGrinders$Orders;"] ++ wsX70 ++ wsX40)
def wsX7_fault_r1 : List Cond := [Cond.constant RX7 71 (-1000001), Cond.fieldLink RX7 19 "DriftGrinders" "text" "LDriftGrinders$Orders;", Cond.methodLink RX7 33 yX7_spareLikeNow, Cond.instanceMethod yX7_spareLikeNow, Cond.selects RX7 yX7_spareLikeNow yX7_spareLikeNow, Cond.initialized RX7, Cond.code yX7_spareLikeNow cX7_spareLikeNow 1 (some (.object "DriftGrinders$Grinder")), Cond.fieldLink RX7 30 "DriftGrinders" "spare" "LDriftGrinders$Grinder;", Cond.fieldLink RX7 26 "DriftGrinders" "now" "LDriftGrinders$Grinder;", Cond.methodLink RX7 160 yX1_copyFrom, Cond.instanceMethod yX1_copyFrom, Cond.selects RX1 yX1_copyFrom yX1_copyFrom, Cond.initialized RX1, Cond.code yX1_copyFrom cX1_copyFrom 2 none, Cond.fieldLink RX1 12 "DriftGrinders$Grinder" "hopper" "LDriftGrinders$Hopper;", Cond.fieldLink RX1 21 "DriftGrinders$Grinder" "burr0" "LDriftGrinders$Burr;", Cond.fieldLink RX1 25 "DriftGrinders$Grinder" "burr1" "LDriftGrinders$Burr;", Cond.fieldLink RX1 33 "DriftGrinders$Grinder" "chute" "LDriftGrinders$Row;", Cond.fieldLink RX1 37 "DriftGrinders$Grinder" "basket" "LDriftGrinders$Row;", Cond.fieldLink RX1 43 "DriftGrinders$Grinder" "shots" "LDriftGrinders$Shots;", Cond.fieldLink RX1 47 "DriftGrinders$Grinder" "settings" "[I", Cond.methodLink RX1 64 arraycopyName, Cond.native arraycopyName, Cond.static arraycopyName]
def wsX7_fault_r2 : List Cond := [Cond.initialized "java/lang/System", Cond.fieldLink RX1 70 "DriftGrinders$Grinder" "second" "I", Cond.fieldLink RX1 74 "DriftGrinders$Grinder" "filled" "I", Cond.fieldLink RX1 77 "DriftGrinders$Grinder" "ground" "I", Cond.fieldLink RX1 80 "DriftGrinders$Grinder" "brewed" "I", Cond.fieldLink RX1 83 "DriftGrinders$Grinder" "purged" "I", Cond.fieldLink RX1 86 "DriftGrinders$Grinder" "shotsNearTarget" "I", Cond.methodLink RX1 51 yX3_copyFrom, Cond.instanceMethod yX3_copyFrom, Cond.selects RX3 yX3_copyFrom yX3_copyFrom, Cond.initialized RX3, Cond.code yX3_copyFrom cX3_copyFrom 2 none, Cond.fieldLink RX3 14 "DriftGrinders$Hopper" "lots" "LDriftGrinders$Row;", Cond.methodLink RX3 20 yX5_copyFrom, Cond.instanceMethod yX5_copyFrom, Cond.selects RX5 yX5_copyFrom yX5_copyFrom, Cond.initialized RX5, Cond.code yX5_copyFrom cX5_copyFrom 2 none, Cond.fieldLink RX5 16 "DriftGrinders$Row" "length" "I", Cond.fieldLink RX5 7 "DriftGrinders$Row" "amounts" "[I", Cond.methodLink RX5 20 Lib.Math.min.name, Cond.static Lib.Math.min.name, Cond.initialized "java/lang/Math", Cond.code Lib.Math.min.name Lib.Math.min.code 2 (some .int)]
def wsX7_fault_r3 : List Cond := [Cond.fieldLink RX5 26 "DriftGrinders$Row" "total" "I", Cond.methodLink RX5 29 arraycopyName, Cond.fieldLink RX5 13 "DriftGrinders$Row" "marks" "[I", Cond.methodLink RX1 55 yX0_copyFrom, Cond.instanceMethod yX0_copyFrom, Cond.selects RX0 yX0_copyFrom yX0_copyFrom, Cond.initialized RX0, Cond.code yX0_copyFrom cX0_copyFrom 2 none, Cond.fieldLink RX0 9 "DriftGrinders$Burr" "dial" "I", Cond.fieldLink RX0 15 "DriftGrinders$Burr" "warmth" "I", Cond.fieldLink RX0 18 "DriftGrinders$Burr" "ground" "I", Cond.fieldLink RX0 21 "DriftGrinders$Burr" "corrections" "I", Cond.methodLink RX1 58 yX5_copyFrom, Cond.methodLink RX1 61 yX6_copyFrom, Cond.instanceMethod yX6_copyFrom, Cond.selects RX6 yX6_copyFrom yX6_copyFrom, Cond.initialized RX6, Cond.code yX6_copyFrom cX6_copyFrom 2 none, Cond.fieldLink RX6 11 "DriftGrinders$Shots" "facts" "[I", Cond.methodLink RX6 15 arraycopyName, Cond.fieldLink RX6 21 "DriftGrinders$Shots" "kept" "I", Cond.fieldLink RX6 25 "DriftGrinders$Shots" "made" "I", Cond.methodLink RX7 146 yX4_doAllOn, Cond.instanceMethod yX4_doAllOn]
def wsX7_fault_r4 : List Cond := [Cond.selects RX4 yX4_doAllOn yX4_doAllOn, Cond.initialized RX4, Cond.code yX4_doAllOn cX4_doAllOn 4 none, Cond.fieldLink RX4 20 "DriftGrinders$Orders" "faultReason" "I", Cond.fieldLink RX4 34 "DriftGrinders$Orders" "at" "I", Cond.fieldLink RX4 37 "DriftGrinders$Orders" "ordersDone" "I", Cond.fieldLink RX4 15 "DriftGrinders$Orders" "length" "I", Cond.methodLink RX4 40 yX4_readOrder, Cond.instanceMethod yX4_readOrder, Cond.selects RX4 yX4_readOrder yX4_readOrder, Cond.code yX4_readOrder cX4_readOrder 1 (some .boolean), Cond.fieldLink RX4 55 "DriftGrinders$Orders" "letter" "C", Cond.methodLink RX4 51 yX4_signHere, Cond.instanceMethod yX4_signHere, Cond.selects RX4 yX4_signHere yX4_signHere, Cond.code yX4_signHere cX4_signHere 1 (some .char), Cond.fieldLink RX4 9 "DriftGrinders$Orders" "signs" "[C", Cond.methodLink RX4 59 yX4_readFirstNumber, Cond.instanceMethod yX4_readFirstNumber, Cond.selects RX4 yX4_readFirstNumber yX4_readFirstNumber, Cond.code yX4_readFirstNumber cX4_readFirstNumber 1 (some .boolean), Cond.fieldLink RX4 73 "DriftGrinders$Orders" "firstNumber" "I", Cond.methodLink RX4 69 yX4_readNumber, Cond.instanceMethod yX4_readNumber]
def wsX7_fault_r5 : List Cond := [Cond.selects RX4 yX4_readNumber yX4_readNumber, Cond.code yX4_readNumber cX4_readNumber 3 (some .int), Cond.methodLink RX4 82 Lib.Math.max.name, Cond.static Lib.Math.max.name, Cond.code Lib.Math.max.name Lib.Math.max.code 2 (some .int), Cond.methodLink RX4 79 yX4_isDigit, Cond.static yX4_isDigit, Cond.code yX4_isDigit cX4_isDigit 1 (some .boolean), Cond.methodLink RX4 62 yX4_passSign, Cond.instanceMethod yX4_passSign, Cond.selects RX4 yX4_passSign yX4_passSign, Cond.code yX4_passSign cX4_passSign 2 (some .boolean), Cond.methodLink RX4 66 yX4_readSecondNumber, Cond.instanceMethod yX4_readSecondNumber, Cond.selects RX4 yX4_readSecondNumber yX4_readSecondNumber, Cond.code yX4_readSecondNumber cX4_readSecondNumber 1 (some .boolean), Cond.fieldLink RX4 76 "DriftGrinders$Orders" "secondNumber" "I", Cond.methodLink RX4 43 yX4_blame, Cond.instanceMethod yX4_blame, Cond.selects RX4 yX4_blame yX4_blame, Cond.code yX4_blame cX4_blame 4 none, Cond.fieldLink RX4 28 "DriftGrinders$Orders" "faultPosition" "I", Cond.fieldLink RX4 31 "DriftGrinders$Orders" "faultCause" "I", Cond.methodLink RX4 47 yX4_doOrderOn]
def wsX7_fault_r6 : List Cond := [Cond.instanceMethod yX4_doOrderOn, Cond.selects RX4 yX4_doOrderOn yX4_doOrderOn, Cond.code yX4_doOrderOn cX4_doOrderOn 2 (some .int), Cond.methodLink RX4 88 yX1_fillIn, Cond.instanceMethod yX1_fillIn, Cond.selects RX1 yX1_fillIn yX1_fillIn, Cond.code yX1_fillIn cX1_fillIn 3 (some .int), Cond.constant RX1 93 (-1000001), Cond.constant RX1 98 (-1000003), Cond.static yX7_isZeroOrOne, Cond.code yX7_isZeroOrOne cX7_isZeroOrOne 1 (some .boolean), Cond.methodLink RX1 94 yX3_hasRoomFor, Cond.instanceMethod yX3_hasRoomFor, Cond.selects RX3 yX3_hasRoomFor yX3_hasRoomFor, Cond.code yX3_hasRoomFor cX3_hasRoomFor 3 (some .boolean), Cond.methodLink RX3 31 yX3_endsWith, Cond.instanceMethod yX3_endsWith, Cond.selects RX3 yX3_endsWith yX3_endsWith, Cond.code yX3_endsWith cX3_endsWith 2 (some .boolean), Cond.methodLink RX3 35 yX5_markAt, Cond.instanceMethod yX5_markAt, Cond.selects RX5 yX5_markAt yX5_markAt, Cond.code yX5_markAt cX5_markAt 2 (some .int), Cond.methodLink RX1 99 yX3_pourIn]
def wsX7_fault_r7 : List Cond := [Cond.instanceMethod yX3_pourIn, Cond.selects RX3 yX3_pourIn yX3_pourIn, Cond.code yX3_pourIn cX3_pourIn 3 none, Cond.methodLink RX3 39 yX5_addToLast, Cond.instanceMethod yX5_addToLast, Cond.selects RX5 yX5_addToLast yX5_addToLast, Cond.code yX5_addToLast cX5_addToLast 2 none, Cond.methodLink RX3 42 yX5_append, Cond.instanceMethod yX5_append, Cond.selects RX5 yX5_append yX5_append, Cond.code yX5_append cX5_append 3 none, Cond.methodLink RX1 103 yX3_amount, Cond.instanceMethod yX3_amount, Cond.selects RX3 yX3_amount yX3_amount, Cond.code yX3_amount cX3_amount 1 (some .int), Cond.methodLink RX4 93 yX1_grindBy, Cond.instanceMethod yX1_grindBy, Cond.selects RX1 yX1_grindBy yX1_grindBy, Cond.code yX1_grindBy cX1_grindBy 5 (some .int), Cond.constant RX1 107 (-1000002), Cond.methodLink RX1 111 Lib.Math.max.name, Cond.methodLink RX1 117 yX1_burrNumbered, Cond.instanceMethod yX1_burrNumbered, Cond.selects RX1 yX1_burrNumbered yX1_burrNumbered]
def wsX7_fault_r8 : List Cond := [Cond.code yX1_burrNumbered cX1_burrNumbered 2 (some (.object "DriftGrinders$Burr")), Cond.methodLink RX1 121 yX0_gap, Cond.instanceMethod yX0_gap, Cond.selects RX0 yX0_gap yX0_gap, Cond.code yX0_gap cX0_gap 1 (some .int), Cond.methodLink RX0 24 yX0_gapAt, Cond.instanceMethod yX0_gapAt, Cond.selects RX0 yX0_gapAt yX0_gapAt, Cond.code yX0_gapAt cX0_gapAt 2 (some .int), Cond.methodLink RX0 28 Lib.Math.max.name, Cond.methodLink RX1 124 yX3_letOut, Cond.instanceMethod yX3_letOut, Cond.selects RX3 yX3_letOut yX3_letOut, Cond.code yX3_letOut cX3_letOut 5 none, Cond.static yX7_markOf, Cond.code yX7_markOf cX7_markOf 3 (some .int), Cond.methodLink RX3 50 yX5_letOut, Cond.instanceMethod yX5_letOut, Cond.selects RX5 yX5_letOut yX5_letOut, Cond.code yX5_letOut cX5_letOut 8 none, Cond.methodLink RX5 35 yX5_append, Cond.methodLink RX5 39 yX5_dropFirst, Cond.instanceMethod yX5_dropFirst, Cond.selects RX5 yX5_dropFirst yX5_dropFirst]
def wsX7_fault_r9 : List Cond := [Cond.code yX5_dropFirst cX5_dropFirst 2 none, Cond.methodLink RX1 128 yX0_warmByGrinding, Cond.instanceMethod yX0_warmByGrinding, Cond.selects RX0 yX0_warmByGrinding yX0_warmByGrinding, Cond.code yX0_warmByGrinding cX0_warmByGrinding 2 none, Cond.methodLink RX0 34 Lib.Math.min.name, Cond.methodLink RX1 131 yX5_letOut, Cond.methodLink RX1 134 yX1_passSeconds, Cond.instanceMethod yX1_passSeconds, Cond.selects RX1 yX1_passSeconds yX1_passSeconds, Cond.code yX1_passSeconds cX1_passSeconds 3 none, Cond.methodLink RX1 143 yX0_cool, Cond.instanceMethod yX0_cool, Cond.selects RX0 yX0_cool yX0_cool, Cond.code yX0_cool cX0_cool 3 none, Cond.static yX7_fallOf, Cond.code yX7_fallOf cX7_fallOf 1 (some .int), Cond.methodLink RX4 96 yX1_turnDial, Cond.instanceMethod yX1_turnDial, Cond.selects RX1 yX1_turnDial yX1_turnDial, Cond.code yX1_turnDial cX1_turnDial 5 (some .int), Cond.methodLink RX4 99 yX1_letPass, Cond.instanceMethod yX1_letPass, Cond.selects RX1 yX1_letPass yX1_letPass]
def wsX7_fault_r10 : List Cond := [Cond.code yX1_letPass cX1_letPass 3 (some .int), Cond.methodLink RX4 103 yX1_makeShot, Cond.instanceMethod yX1_makeShot, Cond.selects RX1 yX1_makeShot yX1_makeShot, Cond.code yX1_makeShot cX1_makeShot 4 (some .int), Cond.methodLink RX1 146 yX1_timeOfBasket, Cond.instanceMethod yX1_timeOfBasket, Cond.selects RX1 yX1_timeOfBasket yX1_timeOfBasket, Cond.code yX1_timeOfBasket cX1_timeOfBasket 3 (some .int), Cond.methodLink RX1 173 yX5_amountAt, Cond.instanceMethod yX5_amountAt, Cond.selects RX5 yX5_amountAt yX5_amountAt, Cond.code yX5_amountAt cX5_amountAt 2 (some .int), Cond.methodLink RX1 176 yX5_markAt, Cond.methodLink RX1 179 yX1_flowOfMark, Cond.instanceMethod yX1_flowOfMark, Cond.selects RX1 yX1_flowOfMark yX1_flowOfMark, Cond.code yX1_flowOfMark cX1_flowOfMark 2 (some .int), Cond.static yX7_kindOfMark, Cond.code yX7_kindOfMark cX7_kindOfMark 1 (some .int), Cond.methodLink RX1 185 yX1_hardnessOf, Cond.instanceMethod yX1_hardnessOf, Cond.selects RX1 yX1_hardnessOf yX1_hardnessOf, Cond.code yX1_hardnessOf cX1_hardnessOf 2 (some .int)]
def wsX7_fault_r11 : List Cond := [Cond.static yX7_gapOfMark, Cond.code yX7_gapOfMark cX7_gapOfMark 1 (some .int), Cond.static yX7_flowOf, Cond.code yX7_flowOf cX7_flowOf 2 (some .int), Cond.methodLink RX1 149 yX5_isMostly, Cond.instanceMethod yX5_isMostly, Cond.selects RX5 yX5_isMostly yX5_isMostly, Cond.code yX5_isMostly cX5_isMostly 4 (some .boolean), Cond.methodLink RX1 155 yX6_add, Cond.instanceMethod yX6_add, Cond.selects RX6 yX6_add yX6_add, Cond.code yX6_add cX6_add 7 none, Cond.methodLink RX6 28 Lib.Math.min.name, Cond.methodLink RX1 159 yX5_clear, Cond.instanceMethod yX5_clear, Cond.selects RX5 yX5_clear yX5_clear, Cond.code yX5_clear cX5_clear 1 none, Cond.methodLink RX1 162 yX1_judge, Cond.instanceMethod yX1_judge, Cond.selects RX1 yX1_judge yX1_judge, Cond.code yX1_judge cX1_judge 3 none, Cond.methodLink RX1 166 Lib.Math.abs.name, Cond.static Lib.Math.abs.name, Cond.code Lib.Math.abs.name Lib.Math.abs.code 1 (some .int)]
def wsX7_fault_r12 : List Cond := [Cond.methodLink RX1 170 yX0_correctBy, Cond.instanceMethod yX0_correctBy, Cond.selects RX0 yX0_correctBy yX0_correctBy, Cond.code yX0_correctBy cX0_correctBy 4 none, Cond.methodLink RX4 106 yX1_emptyChute, Cond.instanceMethod yX1_emptyChute, Cond.selects RX1 yX1_emptyChute yX1_emptyChute, Cond.code yX1_emptyChute cX1_emptyChute 2 (some .int), Cond.methodLink RX7 150 yX4_tellFault, Cond.instanceMethod yX4_tellFault, Cond.selects RX4 yX4_tellFault yX4_tellFault, Cond.code yX4_tellFault cX4_tellFault 2 (some .int), Cond.constant RX4 27 (-1000004), Cond.methodLink RX4 23 yX4_hasFault, Cond.instanceMethod yX4_hasFault, Cond.selects RX4 yX4_hasFault yX4_hasFault, Cond.code yX4_hasFault cX4_hasFault 1 (some .boolean)]
def wsX7_fault : List Cond := .code yX7_fault cX7_fault 2 (some .int) :: ((wsX7_fault_r1 ++ (wsX7_fault_r2 ++ (wsX7_fault_r3 ++ (wsX7_fault_r4 ++ (wsX7_fault_r5 ++ (wsX7_fault_r6 ++ (wsX7_fault_r7 ++ (wsX7_fault_r8 ++ (wsX7_fault_r9 ++ (wsX7_fault_r10 ++ (wsX7_fault_r11 ++ wsX7_fault_r12))))))))))) ++ wsX70 ++ wsX10 ++ wsX30 ++ wsX50 ++ wsX00 ++ wsX60 ++ wsX40)
def wsX7_play_r1 : List Cond := [Cond.fieldLink RX7 19 "DriftGrinders" "text" "LDriftGrinders$Orders;", Cond.constant RX7 137 (-1000002), Cond.methodLink RX7 33 yX7_spareLikeNow, Cond.instanceMethod yX7_spareLikeNow, Cond.selects RX7 yX7_spareLikeNow yX7_spareLikeNow, Cond.initialized RX7, Cond.code yX7_spareLikeNow cX7_spareLikeNow 1 (some (.object "DriftGrinders$Grinder")), Cond.fieldLink RX7 30 "DriftGrinders" "spare" "LDriftGrinders$Grinder;", Cond.fieldLink RX7 26 "DriftGrinders" "now" "LDriftGrinders$Grinder;", Cond.methodLink RX7 160 yX1_copyFrom, Cond.instanceMethod yX1_copyFrom, Cond.selects RX1 yX1_copyFrom yX1_copyFrom, Cond.initialized RX1, Cond.code yX1_copyFrom cX1_copyFrom 2 none, Cond.fieldLink RX1 12 "DriftGrinders$Grinder" "hopper" "LDriftGrinders$Hopper;", Cond.fieldLink RX1 21 "DriftGrinders$Grinder" "burr0" "LDriftGrinders$Burr;", Cond.fieldLink RX1 25 "DriftGrinders$Grinder" "burr1" "LDriftGrinders$Burr;", Cond.fieldLink RX1 33 "DriftGrinders$Grinder" "chute" "LDriftGrinders$Row;", Cond.fieldLink RX1 37 "DriftGrinders$Grinder" "basket" "LDriftGrinders$Row;", Cond.fieldLink RX1 43 "DriftGrinders$Grinder" "shots" "LDriftGrinders$Shots;", Cond.fieldLink RX1 47 "DriftGrinders$Grinder" "settings" "[I", Cond.methodLink RX1 64 arraycopyName, Cond.native arraycopyName, Cond.static arraycopyName]
def wsX7_play_r2 : List Cond := [Cond.initialized "java/lang/System", Cond.fieldLink RX1 70 "DriftGrinders$Grinder" "second" "I", Cond.fieldLink RX1 74 "DriftGrinders$Grinder" "filled" "I", Cond.fieldLink RX1 77 "DriftGrinders$Grinder" "ground" "I", Cond.fieldLink RX1 80 "DriftGrinders$Grinder" "brewed" "I", Cond.fieldLink RX1 83 "DriftGrinders$Grinder" "purged" "I", Cond.fieldLink RX1 86 "DriftGrinders$Grinder" "shotsNearTarget" "I", Cond.methodLink RX1 51 yX3_copyFrom, Cond.instanceMethod yX3_copyFrom, Cond.selects RX3 yX3_copyFrom yX3_copyFrom, Cond.initialized RX3, Cond.code yX3_copyFrom cX3_copyFrom 2 none, Cond.fieldLink RX3 14 "DriftGrinders$Hopper" "lots" "LDriftGrinders$Row;", Cond.methodLink RX3 20 yX5_copyFrom, Cond.instanceMethod yX5_copyFrom, Cond.selects RX5 yX5_copyFrom yX5_copyFrom, Cond.initialized RX5, Cond.code yX5_copyFrom cX5_copyFrom 2 none, Cond.fieldLink RX5 16 "DriftGrinders$Row" "length" "I", Cond.fieldLink RX5 7 "DriftGrinders$Row" "amounts" "[I", Cond.methodLink RX5 20 Lib.Math.min.name, Cond.static Lib.Math.min.name, Cond.initialized "java/lang/Math", Cond.code Lib.Math.min.name Lib.Math.min.code 2 (some .int)]
def wsX7_play_r3 : List Cond := [Cond.fieldLink RX5 26 "DriftGrinders$Row" "total" "I", Cond.methodLink RX5 29 arraycopyName, Cond.fieldLink RX5 13 "DriftGrinders$Row" "marks" "[I", Cond.methodLink RX1 55 yX0_copyFrom, Cond.instanceMethod yX0_copyFrom, Cond.selects RX0 yX0_copyFrom yX0_copyFrom, Cond.initialized RX0, Cond.code yX0_copyFrom cX0_copyFrom 2 none, Cond.fieldLink RX0 9 "DriftGrinders$Burr" "dial" "I", Cond.fieldLink RX0 15 "DriftGrinders$Burr" "warmth" "I", Cond.fieldLink RX0 18 "DriftGrinders$Burr" "ground" "I", Cond.fieldLink RX0 21 "DriftGrinders$Burr" "corrections" "I", Cond.methodLink RX1 58 yX5_copyFrom, Cond.methodLink RX1 61 yX6_copyFrom, Cond.instanceMethod yX6_copyFrom, Cond.selects RX6 yX6_copyFrom yX6_copyFrom, Cond.initialized RX6, Cond.code yX6_copyFrom cX6_copyFrom 2 none, Cond.fieldLink RX6 11 "DriftGrinders$Shots" "facts" "[I", Cond.methodLink RX6 15 arraycopyName, Cond.fieldLink RX6 21 "DriftGrinders$Shots" "kept" "I", Cond.fieldLink RX6 25 "DriftGrinders$Shots" "made" "I", Cond.methodLink RX7 146 yX4_doAllOn, Cond.instanceMethod yX4_doAllOn]
def wsX7_play_r4 : List Cond := [Cond.selects RX4 yX4_doAllOn yX4_doAllOn, Cond.initialized RX4, Cond.code yX4_doAllOn cX4_doAllOn 4 none, Cond.fieldLink RX4 20 "DriftGrinders$Orders" "faultReason" "I", Cond.fieldLink RX4 34 "DriftGrinders$Orders" "at" "I", Cond.fieldLink RX4 37 "DriftGrinders$Orders" "ordersDone" "I", Cond.fieldLink RX4 15 "DriftGrinders$Orders" "length" "I", Cond.methodLink RX4 40 yX4_readOrder, Cond.instanceMethod yX4_readOrder, Cond.selects RX4 yX4_readOrder yX4_readOrder, Cond.code yX4_readOrder cX4_readOrder 1 (some .boolean), Cond.fieldLink RX4 55 "DriftGrinders$Orders" "letter" "C", Cond.methodLink RX4 51 yX4_signHere, Cond.instanceMethod yX4_signHere, Cond.selects RX4 yX4_signHere yX4_signHere, Cond.code yX4_signHere cX4_signHere 1 (some .char), Cond.fieldLink RX4 9 "DriftGrinders$Orders" "signs" "[C", Cond.methodLink RX4 59 yX4_readFirstNumber, Cond.instanceMethod yX4_readFirstNumber, Cond.selects RX4 yX4_readFirstNumber yX4_readFirstNumber, Cond.code yX4_readFirstNumber cX4_readFirstNumber 1 (some .boolean), Cond.fieldLink RX4 73 "DriftGrinders$Orders" "firstNumber" "I", Cond.methodLink RX4 69 yX4_readNumber, Cond.instanceMethod yX4_readNumber]
def wsX7_play_r5 : List Cond := [Cond.selects RX4 yX4_readNumber yX4_readNumber, Cond.code yX4_readNumber cX4_readNumber 3 (some .int), Cond.methodLink RX4 82 Lib.Math.max.name, Cond.static Lib.Math.max.name, Cond.code Lib.Math.max.name Lib.Math.max.code 2 (some .int), Cond.methodLink RX4 79 yX4_isDigit, Cond.static yX4_isDigit, Cond.code yX4_isDigit cX4_isDigit 1 (some .boolean), Cond.methodLink RX4 62 yX4_passSign, Cond.instanceMethod yX4_passSign, Cond.selects RX4 yX4_passSign yX4_passSign, Cond.code yX4_passSign cX4_passSign 2 (some .boolean), Cond.methodLink RX4 66 yX4_readSecondNumber, Cond.instanceMethod yX4_readSecondNumber, Cond.selects RX4 yX4_readSecondNumber yX4_readSecondNumber, Cond.code yX4_readSecondNumber cX4_readSecondNumber 1 (some .boolean), Cond.fieldLink RX4 76 "DriftGrinders$Orders" "secondNumber" "I", Cond.methodLink RX4 43 yX4_blame, Cond.instanceMethod yX4_blame, Cond.selects RX4 yX4_blame yX4_blame, Cond.code yX4_blame cX4_blame 4 none, Cond.fieldLink RX4 28 "DriftGrinders$Orders" "faultPosition" "I", Cond.fieldLink RX4 31 "DriftGrinders$Orders" "faultCause" "I", Cond.methodLink RX4 47 yX4_doOrderOn]
def wsX7_play_r6 : List Cond := [Cond.instanceMethod yX4_doOrderOn, Cond.selects RX4 yX4_doOrderOn yX4_doOrderOn, Cond.code yX4_doOrderOn cX4_doOrderOn 2 (some .int), Cond.methodLink RX4 88 yX1_fillIn, Cond.instanceMethod yX1_fillIn, Cond.selects RX1 yX1_fillIn yX1_fillIn, Cond.code yX1_fillIn cX1_fillIn 3 (some .int), Cond.constant RX1 93 (-1000001), Cond.constant RX1 98 (-1000003), Cond.static yX7_isZeroOrOne, Cond.code yX7_isZeroOrOne cX7_isZeroOrOne 1 (some .boolean), Cond.methodLink RX1 94 yX3_hasRoomFor, Cond.instanceMethod yX3_hasRoomFor, Cond.selects RX3 yX3_hasRoomFor yX3_hasRoomFor, Cond.code yX3_hasRoomFor cX3_hasRoomFor 3 (some .boolean), Cond.methodLink RX3 31 yX3_endsWith, Cond.instanceMethod yX3_endsWith, Cond.selects RX3 yX3_endsWith yX3_endsWith, Cond.code yX3_endsWith cX3_endsWith 2 (some .boolean), Cond.methodLink RX3 35 yX5_markAt, Cond.instanceMethod yX5_markAt, Cond.selects RX5 yX5_markAt yX5_markAt, Cond.code yX5_markAt cX5_markAt 2 (some .int), Cond.methodLink RX1 99 yX3_pourIn]
def wsX7_play_r7 : List Cond := [Cond.instanceMethod yX3_pourIn, Cond.selects RX3 yX3_pourIn yX3_pourIn, Cond.code yX3_pourIn cX3_pourIn 3 none, Cond.methodLink RX3 39 yX5_addToLast, Cond.instanceMethod yX5_addToLast, Cond.selects RX5 yX5_addToLast yX5_addToLast, Cond.code yX5_addToLast cX5_addToLast 2 none, Cond.methodLink RX3 42 yX5_append, Cond.instanceMethod yX5_append, Cond.selects RX5 yX5_append yX5_append, Cond.code yX5_append cX5_append 3 none, Cond.methodLink RX1 103 yX3_amount, Cond.instanceMethod yX3_amount, Cond.selects RX3 yX3_amount yX3_amount, Cond.code yX3_amount cX3_amount 1 (some .int), Cond.methodLink RX4 93 yX1_grindBy, Cond.instanceMethod yX1_grindBy, Cond.selects RX1 yX1_grindBy yX1_grindBy, Cond.code yX1_grindBy cX1_grindBy 5 (some .int), Cond.constant RX1 107 (-1000002), Cond.methodLink RX1 111 Lib.Math.max.name, Cond.methodLink RX1 117 yX1_burrNumbered, Cond.instanceMethod yX1_burrNumbered, Cond.selects RX1 yX1_burrNumbered yX1_burrNumbered]
def wsX7_play_r8 : List Cond := [Cond.code yX1_burrNumbered cX1_burrNumbered 2 (some (.object "DriftGrinders$Burr")), Cond.methodLink RX1 121 yX0_gap, Cond.instanceMethod yX0_gap, Cond.selects RX0 yX0_gap yX0_gap, Cond.code yX0_gap cX0_gap 1 (some .int), Cond.methodLink RX0 24 yX0_gapAt, Cond.instanceMethod yX0_gapAt, Cond.selects RX0 yX0_gapAt yX0_gapAt, Cond.code yX0_gapAt cX0_gapAt 2 (some .int), Cond.methodLink RX0 28 Lib.Math.max.name, Cond.methodLink RX1 124 yX3_letOut, Cond.instanceMethod yX3_letOut, Cond.selects RX3 yX3_letOut yX3_letOut, Cond.code yX3_letOut cX3_letOut 5 none, Cond.static yX7_markOf, Cond.code yX7_markOf cX7_markOf 3 (some .int), Cond.methodLink RX3 50 yX5_letOut, Cond.instanceMethod yX5_letOut, Cond.selects RX5 yX5_letOut yX5_letOut, Cond.code yX5_letOut cX5_letOut 8 none, Cond.methodLink RX5 35 yX5_append, Cond.methodLink RX5 39 yX5_dropFirst, Cond.instanceMethod yX5_dropFirst, Cond.selects RX5 yX5_dropFirst yX5_dropFirst]
def wsX7_play_r9 : List Cond := [Cond.code yX5_dropFirst cX5_dropFirst 2 none, Cond.methodLink RX1 128 yX0_warmByGrinding, Cond.instanceMethod yX0_warmByGrinding, Cond.selects RX0 yX0_warmByGrinding yX0_warmByGrinding, Cond.code yX0_warmByGrinding cX0_warmByGrinding 2 none, Cond.methodLink RX0 34 Lib.Math.min.name, Cond.methodLink RX1 131 yX5_letOut, Cond.methodLink RX1 134 yX1_passSeconds, Cond.instanceMethod yX1_passSeconds, Cond.selects RX1 yX1_passSeconds yX1_passSeconds, Cond.code yX1_passSeconds cX1_passSeconds 3 none, Cond.methodLink RX1 143 yX0_cool, Cond.instanceMethod yX0_cool, Cond.selects RX0 yX0_cool yX0_cool, Cond.code yX0_cool cX0_cool 3 none, Cond.static yX7_fallOf, Cond.code yX7_fallOf cX7_fallOf 1 (some .int), Cond.methodLink RX4 96 yX1_turnDial, Cond.instanceMethod yX1_turnDial, Cond.selects RX1 yX1_turnDial yX1_turnDial, Cond.code yX1_turnDial cX1_turnDial 5 (some .int), Cond.methodLink RX4 99 yX1_letPass, Cond.instanceMethod yX1_letPass, Cond.selects RX1 yX1_letPass yX1_letPass]
def wsX7_play_r10 : List Cond := [Cond.code yX1_letPass cX1_letPass 3 (some .int), Cond.methodLink RX4 103 yX1_makeShot, Cond.instanceMethod yX1_makeShot, Cond.selects RX1 yX1_makeShot yX1_makeShot, Cond.code yX1_makeShot cX1_makeShot 4 (some .int), Cond.methodLink RX1 146 yX1_timeOfBasket, Cond.instanceMethod yX1_timeOfBasket, Cond.selects RX1 yX1_timeOfBasket yX1_timeOfBasket, Cond.code yX1_timeOfBasket cX1_timeOfBasket 3 (some .int), Cond.methodLink RX1 173 yX5_amountAt, Cond.instanceMethod yX5_amountAt, Cond.selects RX5 yX5_amountAt yX5_amountAt, Cond.code yX5_amountAt cX5_amountAt 2 (some .int), Cond.methodLink RX1 176 yX5_markAt, Cond.methodLink RX1 179 yX1_flowOfMark, Cond.instanceMethod yX1_flowOfMark, Cond.selects RX1 yX1_flowOfMark yX1_flowOfMark, Cond.code yX1_flowOfMark cX1_flowOfMark 2 (some .int), Cond.static yX7_kindOfMark, Cond.code yX7_kindOfMark cX7_kindOfMark 1 (some .int), Cond.methodLink RX1 185 yX1_hardnessOf, Cond.instanceMethod yX1_hardnessOf, Cond.selects RX1 yX1_hardnessOf yX1_hardnessOf, Cond.code yX1_hardnessOf cX1_hardnessOf 2 (some .int)]
def wsX7_play_r11 : List Cond := [Cond.static yX7_gapOfMark, Cond.code yX7_gapOfMark cX7_gapOfMark 1 (some .int), Cond.static yX7_flowOf, Cond.code yX7_flowOf cX7_flowOf 2 (some .int), Cond.methodLink RX1 149 yX5_isMostly, Cond.instanceMethod yX5_isMostly, Cond.selects RX5 yX5_isMostly yX5_isMostly, Cond.code yX5_isMostly cX5_isMostly 4 (some .boolean), Cond.methodLink RX1 155 yX6_add, Cond.instanceMethod yX6_add, Cond.selects RX6 yX6_add yX6_add, Cond.code yX6_add cX6_add 7 none, Cond.methodLink RX6 28 Lib.Math.min.name, Cond.methodLink RX1 159 yX5_clear, Cond.instanceMethod yX5_clear, Cond.selects RX5 yX5_clear yX5_clear, Cond.code yX5_clear cX5_clear 1 none, Cond.methodLink RX1 162 yX1_judge, Cond.instanceMethod yX1_judge, Cond.selects RX1 yX1_judge yX1_judge, Cond.code yX1_judge cX1_judge 3 none, Cond.methodLink RX1 166 Lib.Math.abs.name, Cond.static Lib.Math.abs.name, Cond.code Lib.Math.abs.name Lib.Math.abs.code 1 (some .int)]
def wsX7_play_r12 : List Cond := [Cond.methodLink RX1 170 yX0_correctBy, Cond.instanceMethod yX0_correctBy, Cond.selects RX0 yX0_correctBy yX0_correctBy, Cond.code yX0_correctBy cX0_correctBy 4 none, Cond.methodLink RX4 106 yX1_emptyChute, Cond.instanceMethod yX1_emptyChute, Cond.selects RX1 yX1_emptyChute yX1_emptyChute, Cond.code yX1_emptyChute cX1_emptyChute 2 (some .int), Cond.methodLink RX7 153 yX4_hasFault, Cond.instanceMethod yX4_hasFault, Cond.selects RX4 yX4_hasFault yX4_hasFault, Cond.code yX4_hasFault cX4_hasFault 1 (some .boolean), Cond.methodLink RX7 41 yX7_keepIfDone, Cond.instanceMethod yX7_keepIfDone, Cond.selects RX7 yX7_keepIfDone yX7_keepIfDone, Cond.code yX7_keepIfDone cX7_keepIfDone 3 (some .int), Cond.fieldLink RX7 10 "DriftGrinders" "history" "LDriftGrinders$History;", Cond.methodLink RX7 163 yX2_add, Cond.instanceMethod yX2_add, Cond.selects RX2 yX2_add yX2_add, Cond.initialized RX2, Cond.code yX2_add cX2_add 3 (some (.object "DriftGrinders$Grinder")), Cond.fieldLink RX2 24 "DriftGrinders$History" "oldest" "LDriftGrinders$Grinder;", Cond.fieldLink RX2 21 "DriftGrinders$History" "third" "LDriftGrinders$Grinder;"]
def wsX7_play_r13 : List Cond := [Cond.fieldLink RX2 18 "DriftGrinders$History" "second" "LDriftGrinders$Grinder;", Cond.fieldLink RX2 12 "DriftGrinders$History" "latest" "LDriftGrinders$Grinder;", Cond.fieldLink RX2 27 "DriftGrinders$History" "states" "I", Cond.methodLink RX2 31 Lib.Math.min.name]
def wsX7_play : List Cond := .code yX7_play cX7_play 1 (some .int) :: ((wsX7_play_r1 ++ (wsX7_play_r2 ++ (wsX7_play_r3 ++ (wsX7_play_r4 ++ (wsX7_play_r5 ++ (wsX7_play_r6 ++ (wsX7_play_r7 ++ (wsX7_play_r8 ++ (wsX7_play_r9 ++ (wsX7_play_r10 ++ (wsX7_play_r11 ++ (wsX7_play_r12 ++ wsX7_play_r13)))))))))))) ++ wsX70 ++ wsX40 ++ wsX10 ++ wsX30 ++ wsX50 ++ wsX00 ++ wsX60 ++ wsX20)
def wsX8_init : List Cond := .code yX8_init cX8_init 1 none :: ([.methodLink RX8 1 objectInit, .instanceMethod objectInit, .code objectInit ⟨#[0xb1]⟩ 1 none, .arrayClass .int, .fieldLink RX8 7 "DriftGrindersModel" "s" "[I", .fieldLink RX8 13 "DriftGrindersModel" "past" "[I", .fieldLink RX8 16 "DriftGrindersModel" "held" "[I", .fieldLink RX8 19 "DriftGrindersModel" "tried" "[I", .fieldLink RX8 22 "DriftGrindersModel" "text" "[I", .fieldLink RX8 25 "DriftGrindersModel" "told" "[I"] ++ wsX80)
def wsX8_in : List Cond := .code yX8_in cX8_in 3 (some .boolean) :: ([])
def wsX8_isOne : List Cond := .code yX8_isOne cX8_isOne 1 (some .boolean) :: ([.methodLink RX8 28 yX8_in, .static yX8_in, .initialized RX8, .code yX8_in cX8_in 3 (some .boolean)])
def wsX8_copies : List Cond := .code yX8_copies cX8_copies 3 none :: ([])
def wsX8_changes : List Cond := .code yX8_changes cX8_changes 2 none :: ([.fieldLink RX8 32 "DriftGrindersModel" "runs" "Z", .fieldLink RX8 36 "DriftGrindersModel" "pasts" "I", .fieldLink RX8 13 "DriftGrindersModel" "past" "[I", .fieldLink RX8 7 "DriftGrindersModel" "s" "[I"] ++ wsX80)
def wsX8_amountOf : List Cond := .code yX8_amountOf cX8_amountOf 1 (some .int) :: ([])
def wsX8_kindOf : List Cond := .code yX8_kindOf cX8_kindOf 1 (some .int) :: ([])
def wsX8_burrIn : List Cond := .code yX8_burrIn cX8_burrIn 1 (some .int) :: ([])
def wsX8_gapOf : List Cond := .code yX8_gapOf cX8_gapOf 1 (some .int) :: ([])
def wsX8_flowOf : List Cond := .code yX8_flowOf cX8_flowOf 2 (some .int) :: ([.fieldLink RX8 7 "DriftGrindersModel" "s" "[I", .methodLink RX8 40 yX8_kindOf, .static yX8_kindOf, .initialized RX8, .code yX8_kindOf cX8_kindOf 1 (some .int), .methodLink RX8 44 yX8_gapOf, .static yX8_gapOf, .code yX8_gapOf cX8_gapOf 1 (some .int)] ++ wsX80)
def wsX8_amounts : List Cond := .code yX8_amounts cX8_amounts 5 (some .int) :: ([.fieldLink RX8 7 "DriftGrindersModel" "s" "[I", .methodLink RX8 47 yX8_amountOf, .static yX8_amountOf, .initialized RX8, .code yX8_amountOf cX8_amountOf 1 (some .int)] ++ wsX80)
def wsX8_hopper : List Cond := .code yX8_hopper cX8_hopper 3 (some .int) :: ([.fieldLink RX8 7 "DriftGrindersModel" "s" "[I"] ++ wsX80)
def wsX8_ofBurr : List Cond := .code yX8_ofBurr cX8_ofBurr 3 (some .int) :: ([.fieldLink RX8 7 "DriftGrindersModel" "s" "[I"] ++ wsX80)
def wsX8_gapBy : List Cond := .code yX8_gapBy cX8_gapBy 3 (some .int) :: ([])
def wsX8_gap : List Cond := .code yX8_gap cX8_gap 2 (some .int) :: ([.methodLink RX8 50 yX8_ofBurr, .instanceMethod yX8_ofBurr, .selects RX8 yX8_ofBurr yX8_ofBurr, .initialized RX8, .code yX8_ofBurr cX8_ofBurr 3 (some .int), .fieldLink RX8 7 "DriftGrindersModel" "s" "[I", .methodLink RX8 54 yX8_gapBy, .static yX8_gapBy, .code yX8_gapBy cX8_gapBy 3 (some .int)] ++ wsX80)
def wsX8_fall : List Cond := .code yX8_fall cX8_fall 1 (some .int) :: ([])
def wsX8_passes : List Cond := .code yX8_passes cX8_passes 6 (some .int) :: ([.fieldLink RX8 7 "DriftGrindersModel" "s" "[I", .methodLink RX8 50 yX8_ofBurr, .instanceMethod yX8_ofBurr, .selects RX8 yX8_ofBurr yX8_ofBurr, .initialized RX8, .code yX8_ofBurr cX8_ofBurr 3 (some .int), .methodLink RX8 57 yX8_fall, .static yX8_fall, .code yX8_fall cX8_fall 1 (some .int)] ++ wsX80)
def wsX8_fill : List Cond := .code yX8_fill cX8_fill 5 (some .int) :: ([.constant RX8 64 (-1000001), .fieldLink RX8 7 "DriftGrindersModel" "s" "[I", .constant RX8 69 (-1000003), .methodLink RX8 60 yX8_isOne, .static yX8_isOne, .initialized RX8, .code yX8_isOne cX8_isOne 1 (some .boolean), .methodLink RX8 28 yX8_in, .static yX8_in, .code yX8_in cX8_in 3 (some .boolean), .methodLink RX8 65 yX8_hopper, .instanceMethod yX8_hopper, .selects RX8 yX8_hopper yX8_hopper, .code yX8_hopper cX8_hopper 3 (some .int), .methodLink RX8 70 yX8_changes, .instanceMethod yX8_changes, .selects RX8 yX8_changes yX8_changes, .code yX8_changes cX8_changes 2 none, .fieldLink RX8 32 "DriftGrindersModel" "runs" "Z", .fieldLink RX8 36 "DriftGrindersModel" "pasts" "I", .fieldLink RX8 13 "DriftGrindersModel" "past" "[I"] ++ wsX80)
def wsX8_comes : List Cond := .code yX8_comes cX8_comes 7 none :: ([.fieldLink RX8 7 "DriftGrindersModel" "s" "[I", .methodLink RX8 73 yX8_gap, .instanceMethod yX8_gap, .selects RX8 yX8_gap yX8_gap, .initialized RX8, .code yX8_gap cX8_gap 2 (some .int), .methodLink RX8 50 yX8_ofBurr, .instanceMethod yX8_ofBurr, .selects RX8 yX8_ofBurr yX8_ofBurr, .code yX8_ofBurr cX8_ofBurr 3 (some .int), .methodLink RX8 54 yX8_gapBy, .static yX8_gapBy, .code yX8_gapBy cX8_gapBy 3 (some .int)] ++ wsX80)
def wsX8_overflows : List Cond := .code yX8_overflows cX8_overflows 5 none :: ([.fieldLink RX8 7 "DriftGrindersModel" "s" "[I", .methodLink RX8 76 yX8_amounts, .instanceMethod yX8_amounts, .selects RX8 yX8_amounts yX8_amounts, .initialized RX8, .code yX8_amounts cX8_amounts 5 (some .int), .methodLink RX8 47 yX8_amountOf, .static yX8_amountOf, .code yX8_amountOf cX8_amountOf 1 (some .int)] ++ wsX80)
def wsX8_couldGrind : List Cond := .code yX8_couldGrind cX8_couldGrind 4 (some .int) :: ([.constant RX8 64 (-1000001), .constant RX8 79 (-1000002), .fieldLink RX8 7 "DriftGrindersModel" "s" "[I", .constant RX8 69 (-1000003), .methodLink RX8 60 yX8_isOne, .static yX8_isOne, .initialized RX8, .code yX8_isOne cX8_isOne 1 (some .boolean), .methodLink RX8 28 yX8_in, .static yX8_in, .code yX8_in cX8_in 3 (some .boolean), .methodLink RX8 65 yX8_hopper, .instanceMethod yX8_hopper, .selects RX8 yX8_hopper yX8_hopper, .code yX8_hopper cX8_hopper 3 (some .int), .methodLink RX8 76 yX8_amounts, .instanceMethod yX8_amounts, .selects RX8 yX8_amounts yX8_amounts, .code yX8_amounts cX8_amounts 5 (some .int), .methodLink RX8 47 yX8_amountOf, .static yX8_amountOf, .code yX8_amountOf cX8_amountOf 1 (some .int)] ++ wsX80)
def wsX8_grinds_r1 : List Cond := [Cond.fieldLink RX8 7 "DriftGrindersModel" "s" "[I", Cond.methodLink RX8 80 yX8_comes, Cond.instanceMethod yX8_comes, Cond.selects RX8 yX8_comes yX8_comes, Cond.initialized RX8, Cond.code yX8_comes cX8_comes 7 none, Cond.methodLink RX8 73 yX8_gap, Cond.instanceMethod yX8_gap, Cond.selects RX8 yX8_gap yX8_gap, Cond.code yX8_gap cX8_gap 2 (some .int), Cond.methodLink RX8 50 yX8_ofBurr, Cond.instanceMethod yX8_ofBurr, Cond.selects RX8 yX8_ofBurr yX8_ofBurr, Cond.code yX8_ofBurr cX8_ofBurr 3 (some .int), Cond.methodLink RX8 54 yX8_gapBy, Cond.static yX8_gapBy, Cond.code yX8_gapBy cX8_gapBy 3 (some .int), Cond.methodLink RX8 84 yX8_overflows, Cond.instanceMethod yX8_overflows, Cond.selects RX8 yX8_overflows yX8_overflows, Cond.code yX8_overflows cX8_overflows 5 none, Cond.methodLink RX8 76 yX8_amounts, Cond.instanceMethod yX8_amounts, Cond.selects RX8 yX8_amounts yX8_amounts]
def wsX8_grinds_r2 : List Cond := [Cond.code yX8_amounts cX8_amounts 5 (some .int), Cond.methodLink RX8 47 yX8_amountOf, Cond.static yX8_amountOf, Cond.code yX8_amountOf cX8_amountOf 1 (some .int)]
def wsX8_grinds : List Cond := .code yX8_grinds cX8_grinds 4 none :: ((wsX8_grinds_r1 ++ wsX8_grinds_r2) ++ wsX80)
def wsX8_grind_r1 : List Cond := [Cond.constant RX8 96 (-1000004), Cond.methodLink RX8 87 yX8_couldGrind, Cond.instanceMethod yX8_couldGrind, Cond.selects RX8 yX8_couldGrind yX8_couldGrind, Cond.initialized RX8, Cond.code yX8_couldGrind cX8_couldGrind 4 (some .int), Cond.constant RX8 64 (-1000001), Cond.constant RX8 79 (-1000002), Cond.fieldLink RX8 7 "DriftGrindersModel" "s" "[I", Cond.constant RX8 69 (-1000003), Cond.methodLink RX8 60 yX8_isOne, Cond.static yX8_isOne, Cond.code yX8_isOne cX8_isOne 1 (some .boolean), Cond.methodLink RX8 28 yX8_in, Cond.static yX8_in, Cond.code yX8_in cX8_in 3 (some .boolean), Cond.methodLink RX8 65 yX8_hopper, Cond.instanceMethod yX8_hopper, Cond.selects RX8 yX8_hopper yX8_hopper, Cond.code yX8_hopper cX8_hopper 3 (some .int), Cond.methodLink RX8 76 yX8_amounts, Cond.instanceMethod yX8_amounts, Cond.selects RX8 yX8_amounts yX8_amounts, Cond.code yX8_amounts cX8_amounts 5 (some .int)]
def wsX8_grind_r2 : List Cond := [Cond.methodLink RX8 47 yX8_amountOf, Cond.static yX8_amountOf, Cond.code yX8_amountOf cX8_amountOf 1 (some .int), Cond.methodLink RX8 70 yX8_changes, Cond.instanceMethod yX8_changes, Cond.selects RX8 yX8_changes yX8_changes, Cond.code yX8_changes cX8_changes 2 none, Cond.fieldLink RX8 32 "DriftGrindersModel" "runs" "Z", Cond.fieldLink RX8 36 "DriftGrindersModel" "pasts" "I", Cond.fieldLink RX8 13 "DriftGrindersModel" "past" "[I", Cond.methodLink RX8 90 yX8_grinds, Cond.instanceMethod yX8_grinds, Cond.selects RX8 yX8_grinds yX8_grinds, Cond.code yX8_grinds cX8_grinds 4 none, Cond.methodLink RX8 80 yX8_comes, Cond.instanceMethod yX8_comes, Cond.selects RX8 yX8_comes yX8_comes, Cond.code yX8_comes cX8_comes 7 none, Cond.methodLink RX8 73 yX8_gap, Cond.instanceMethod yX8_gap, Cond.selects RX8 yX8_gap yX8_gap, Cond.code yX8_gap cX8_gap 2 (some .int), Cond.methodLink RX8 50 yX8_ofBurr, Cond.instanceMethod yX8_ofBurr]
def wsX8_grind_r3 : List Cond := [Cond.selects RX8 yX8_ofBurr yX8_ofBurr, Cond.code yX8_ofBurr cX8_ofBurr 3 (some .int), Cond.methodLink RX8 54 yX8_gapBy, Cond.static yX8_gapBy, Cond.code yX8_gapBy cX8_gapBy 3 (some .int), Cond.methodLink RX8 84 yX8_overflows, Cond.instanceMethod yX8_overflows, Cond.selects RX8 yX8_overflows yX8_overflows, Cond.code yX8_overflows cX8_overflows 5 none, Cond.methodLink RX8 93 yX8_passes, Cond.instanceMethod yX8_passes, Cond.selects RX8 yX8_passes yX8_passes, Cond.code yX8_passes cX8_passes 6 (some .int), Cond.methodLink RX8 57 yX8_fall, Cond.static yX8_fall, Cond.code yX8_fall cX8_fall 1 (some .int)]
def wsX8_grind : List Cond := .code yX8_grind cX8_grind 5 (some .int) :: ((wsX8_grind_r1 ++ (wsX8_grind_r2 ++ wsX8_grind_r3)) ++ wsX80)
def wsX8_dial : List Cond := .code yX8_dial cX8_dial 4 (some .int) :: ([.constant RX8 64 (-1000001), .fieldLink RX8 7 "DriftGrindersModel" "s" "[I", .methodLink RX8 60 yX8_isOne, .static yX8_isOne, .initialized RX8, .code yX8_isOne cX8_isOne 1 (some .boolean), .methodLink RX8 28 yX8_in, .static yX8_in, .code yX8_in cX8_in 3 (some .boolean), .methodLink RX8 70 yX8_changes, .instanceMethod yX8_changes, .selects RX8 yX8_changes yX8_changes, .code yX8_changes cX8_changes 2 none, .fieldLink RX8 32 "DriftGrindersModel" "runs" "Z", .fieldLink RX8 36 "DriftGrindersModel" "pasts" "I", .fieldLink RX8 13 "DriftGrindersModel" "past" "[I", .methodLink RX8 50 yX8_ofBurr, .instanceMethod yX8_ofBurr, .selects RX8 yX8_ofBurr yX8_ofBurr, .code yX8_ofBurr cX8_ofBurr 3 (some .int)] ++ wsX80)
def wsX8_rest : List Cond := .code yX8_rest cX8_rest 2 (some .int) :: ([.constant RX8 64 (-1000001), .methodLink RX8 28 yX8_in, .static yX8_in, .initialized RX8, .code yX8_in cX8_in 3 (some .boolean), .methodLink RX8 70 yX8_changes, .instanceMethod yX8_changes, .selects RX8 yX8_changes yX8_changes, .code yX8_changes cX8_changes 2 none, .fieldLink RX8 32 "DriftGrindersModel" "runs" "Z", .fieldLink RX8 36 "DriftGrindersModel" "pasts" "I", .fieldLink RX8 13 "DriftGrindersModel" "past" "[I", .fieldLink RX8 7 "DriftGrindersModel" "s" "[I", .methodLink RX8 93 yX8_passes, .instanceMethod yX8_passes, .selects RX8 yX8_passes yX8_passes, .code yX8_passes cX8_passes 6 (some .int), .methodLink RX8 50 yX8_ofBurr, .instanceMethod yX8_ofBurr, .selects RX8 yX8_ofBurr yX8_ofBurr, .code yX8_ofBurr cX8_ofBurr 3 (some .int), .methodLink RX8 57 yX8_fall, .static yX8_fall, .code yX8_fall cX8_fall 1 (some .int)] ++ wsX80)
def wsX8_timeNow : List Cond := .code yX8_timeNow cX8_timeNow 3 (some .int) :: ([.fieldLink RX8 7 "DriftGrindersModel" "s" "[I", .methodLink RX8 47 yX8_amountOf, .static yX8_amountOf, .initialized RX8, .code yX8_amountOf cX8_amountOf 1 (some .int), .methodLink RX8 97 yX8_flowOf, .instanceMethod yX8_flowOf, .selects RX8 yX8_flowOf yX8_flowOf, .code yX8_flowOf cX8_flowOf 2 (some .int), .methodLink RX8 40 yX8_kindOf, .static yX8_kindOf, .code yX8_kindOf cX8_kindOf 1 (some .int), .methodLink RX8 44 yX8_gapOf, .static yX8_gapOf, .code yX8_gapOf cX8_gapOf 1 (some .int), .methodLink RX8 76 yX8_amounts, .instanceMethod yX8_amounts, .selects RX8 yX8_amounts yX8_amounts, .code yX8_amounts cX8_amounts 5 (some .int)] ++ wsX80)
def wsX8_corrects : List Cond := .code yX8_corrects cX8_corrects 4 none :: ([.fieldLink RX8 7 "DriftGrindersModel" "s" "[I", .methodLink RX8 50 yX8_ofBurr, .instanceMethod yX8_ofBurr, .selects RX8 yX8_ofBurr yX8_ofBurr, .initialized RX8, .code yX8_ofBurr cX8_ofBurr 3 (some .int)] ++ wsX80)
def wsX8_away : List Cond := .code yX8_away cX8_away 3 (some .int) :: ([.fieldLink RX8 7 "DriftGrindersModel" "s" "[I"] ++ wsX80)
def wsX8_shot_r1 : List Cond := [Cond.fieldLink RX8 7 "DriftGrindersModel" "s" "[I", Cond.constant RX8 79 (-1000002), Cond.constant RX8 96 (-1000004), Cond.methodLink RX8 70 yX8_changes, Cond.instanceMethod yX8_changes, Cond.selects RX8 yX8_changes yX8_changes, Cond.initialized RX8, Cond.code yX8_changes cX8_changes 2 none, Cond.fieldLink RX8 32 "DriftGrindersModel" "runs" "Z", Cond.fieldLink RX8 36 "DriftGrindersModel" "pasts" "I", Cond.fieldLink RX8 13 "DriftGrindersModel" "past" "[I", Cond.methodLink RX8 100 yX8_timeNow, Cond.instanceMethod yX8_timeNow, Cond.selects RX8 yX8_timeNow yX8_timeNow, Cond.code yX8_timeNow cX8_timeNow 3 (some .int), Cond.methodLink RX8 47 yX8_amountOf, Cond.static yX8_amountOf, Cond.code yX8_amountOf cX8_amountOf 1 (some .int), Cond.methodLink RX8 97 yX8_flowOf, Cond.instanceMethod yX8_flowOf, Cond.selects RX8 yX8_flowOf yX8_flowOf, Cond.code yX8_flowOf cX8_flowOf 2 (some .int), Cond.methodLink RX8 40 yX8_kindOf, Cond.static yX8_kindOf]
def wsX8_shot_r2 : List Cond := [Cond.code yX8_kindOf cX8_kindOf 1 (some .int), Cond.methodLink RX8 44 yX8_gapOf, Cond.static yX8_gapOf, Cond.code yX8_gapOf cX8_gapOf 1 (some .int), Cond.methodLink RX8 76 yX8_amounts, Cond.instanceMethod yX8_amounts, Cond.selects RX8 yX8_amounts yX8_amounts, Cond.code yX8_amounts cX8_amounts 5 (some .int), Cond.methodLink RX8 103 yX8_burrIn, Cond.static yX8_burrIn, Cond.code yX8_burrIn cX8_burrIn 1 (some .int), Cond.methodLink RX8 106 yX8_away, Cond.instanceMethod yX8_away, Cond.selects RX8 yX8_away yX8_away, Cond.code yX8_away cX8_away 3 (some .int), Cond.methodLink RX8 109 yX8_corrects, Cond.instanceMethod yX8_corrects, Cond.selects RX8 yX8_corrects yX8_corrects, Cond.code yX8_corrects cX8_corrects 4 none, Cond.methodLink RX8 50 yX8_ofBurr, Cond.instanceMethod yX8_ofBurr, Cond.selects RX8 yX8_ofBurr yX8_ofBurr, Cond.code yX8_ofBurr cX8_ofBurr 3 (some .int), Cond.methodLink RX8 93 yX8_passes]
def wsX8_shot_r3 : List Cond := [Cond.instanceMethod yX8_passes, Cond.selects RX8 yX8_passes yX8_passes, Cond.code yX8_passes cX8_passes 6 (some .int), Cond.methodLink RX8 57 yX8_fall, Cond.static yX8_fall, Cond.code yX8_fall cX8_fall 1 (some .int)]
def wsX8_shot : List Cond := .code yX8_shot cX8_shot 7 (some .int) :: ((wsX8_shot_r1 ++ (wsX8_shot_r2 ++ wsX8_shot_r3)) ++ wsX80)
def wsX8_purge : List Cond := .code yX8_purge cX8_purge 2 (some .int) :: ([.fieldLink RX8 7 "DriftGrindersModel" "s" "[I", .methodLink RX8 70 yX8_changes, .instanceMethod yX8_changes, .selects RX8 yX8_changes yX8_changes, .initialized RX8, .code yX8_changes cX8_changes 2 none, .fieldLink RX8 32 "DriftGrindersModel" "runs" "Z", .fieldLink RX8 36 "DriftGrindersModel" "pasts" "I", .fieldLink RX8 13 "DriftGrindersModel" "past" "[I", .methodLink RX8 76 yX8_amounts, .instanceMethod yX8_amounts, .selects RX8 yX8_amounts yX8_amounts, .code yX8_amounts cX8_amounts 5 (some .int), .methodLink RX8 47 yX8_amountOf, .static yX8_amountOf, .code yX8_amountOf cX8_amountOf 1 (some .int)] ++ wsX80)
def wsX8_correct_r1 : List Cond := [Cond.constant RX8 64 (-1000001), Cond.fieldLink RX8 7 "DriftGrindersModel" "s" "[I", Cond.constant RX8 79 (-1000002), Cond.methodLink RX8 60 yX8_isOne, Cond.static yX8_isOne, Cond.initialized RX8, Cond.code yX8_isOne cX8_isOne 1 (some .boolean), Cond.methodLink RX8 28 yX8_in, Cond.static yX8_in, Cond.code yX8_in cX8_in 3 (some .boolean), Cond.methodLink RX8 70 yX8_changes, Cond.instanceMethod yX8_changes, Cond.selects RX8 yX8_changes yX8_changes, Cond.code yX8_changes cX8_changes 2 none, Cond.fieldLink RX8 32 "DriftGrindersModel" "runs" "Z", Cond.fieldLink RX8 36 "DriftGrindersModel" "pasts" "I", Cond.fieldLink RX8 13 "DriftGrindersModel" "past" "[I", Cond.methodLink RX8 109 yX8_corrects, Cond.instanceMethod yX8_corrects, Cond.selects RX8 yX8_corrects yX8_corrects, Cond.code yX8_corrects cX8_corrects 4 none, Cond.methodLink RX8 50 yX8_ofBurr, Cond.instanceMethod yX8_ofBurr, Cond.selects RX8 yX8_ofBurr yX8_ofBurr]
def wsX8_correct_r2 : List Cond := [Cond.code yX8_ofBurr cX8_ofBurr 3 (some .int)]
def wsX8_correct : List Cond := .code yX8_correct cX8_correct 2 (some .int) :: ((wsX8_correct_r1 ++ wsX8_correct_r2) ++ wsX80)
def wsX8_leastOf : List Cond := .code yX8_leastOf cX8_leastOf 1 (some .int) :: ([])
def wsX8_mostOf : List Cond := .code yX8_mostOf cX8_mostOf 1 (some .int) :: ([])
def wsX8_set : List Cond := .code yX8_set cX8_set 4 (some .int) :: ([.constant RX8 64 (-1000001), .fieldLink RX8 7 "DriftGrindersModel" "s" "[I", .methodLink RX8 28 yX8_in, .static yX8_in, .initialized RX8, .code yX8_in cX8_in 3 (some .boolean), .methodLink RX8 112 yX8_leastOf, .static yX8_leastOf, .code yX8_leastOf cX8_leastOf 1 (some .int), .methodLink RX8 115 yX8_mostOf, .static yX8_mostOf, .code yX8_mostOf cX8_mostOf 1 (some .int), .methodLink RX8 70 yX8_changes, .instanceMethod yX8_changes, .selects RX8 yX8_changes yX8_changes, .code yX8_changes cX8_changes 2 none, .fieldLink RX8 32 "DriftGrindersModel" "runs" "Z", .fieldLink RX8 36 "DriftGrindersModel" "pasts" "I", .fieldLink RX8 13 "DriftGrindersModel" "past" "[I"] ++ wsX80)
def wsX8_burrOf : List Cond := .code yX8_burrOf cX8_burrOf 3 (some .int) :: ([.constant RX8 64 (-1000001), .methodLink RX8 60 yX8_isOne, .static yX8_isOne, .initialized RX8, .code yX8_isOne cX8_isOne 1 (some .boolean), .methodLink RX8 28 yX8_in, .static yX8_in, .code yX8_in cX8_in 3 (some .boolean), .methodLink RX8 73 yX8_gap, .instanceMethod yX8_gap, .selects RX8 yX8_gap yX8_gap, .code yX8_gap cX8_gap 2 (some .int), .methodLink RX8 50 yX8_ofBurr, .instanceMethod yX8_ofBurr, .selects RX8 yX8_ofBurr yX8_ofBurr, .code yX8_ofBurr cX8_ofBurr 3 (some .int), .fieldLink RX8 7 "DriftGrindersModel" "s" "[I", .methodLink RX8 54 yX8_gapBy, .static yX8_gapBy, .code yX8_gapBy cX8_gapBy 3 (some .int)] ++ wsX80)
def wsX8_lotOf : List Cond := .code yX8_lotOf cX8_lotOf 3 (some .int) :: ([.constant RX8 64 (-1000001), .fieldLink RX8 7 "DriftGrindersModel" "s" "[I", .constant RX8 96 (-1000004), .methodLink RX8 60 yX8_isOne, .static yX8_isOne, .initialized RX8, .code yX8_isOne cX8_isOne 1 (some .boolean), .methodLink RX8 28 yX8_in, .static yX8_in, .code yX8_in cX8_in 3 (some .boolean)] ++ wsX80)
def wsX8_portionOf_r1 : List Cond := [Cond.constant RX8 64 (-1000001), Cond.fieldLink RX8 7 "DriftGrindersModel" "s" "[I", Cond.constant RX8 96 (-1000004), Cond.methodLink RX8 60 yX8_isOne, Cond.static yX8_isOne, Cond.initialized RX8, Cond.code yX8_isOne cX8_isOne 1 (some .boolean), Cond.methodLink RX8 28 yX8_in, Cond.static yX8_in, Cond.code yX8_in cX8_in 3 (some .boolean), Cond.methodLink RX8 47 yX8_amountOf, Cond.static yX8_amountOf, Cond.code yX8_amountOf cX8_amountOf 1 (some .int), Cond.methodLink RX8 40 yX8_kindOf, Cond.static yX8_kindOf, Cond.code yX8_kindOf cX8_kindOf 1 (some .int), Cond.methodLink RX8 103 yX8_burrIn, Cond.static yX8_burrIn, Cond.code yX8_burrIn cX8_burrIn 1 (some .int), Cond.methodLink RX8 44 yX8_gapOf, Cond.static yX8_gapOf, Cond.code yX8_gapOf cX8_gapOf 1 (some .int), Cond.methodLink RX8 97 yX8_flowOf, Cond.instanceMethod yX8_flowOf]
def wsX8_portionOf_r2 : List Cond := [Cond.selects RX8 yX8_flowOf yX8_flowOf, Cond.code yX8_flowOf cX8_flowOf 2 (some .int)]
def wsX8_portionOf : List Cond := .code yX8_portionOf cX8_portionOf 5 (some .int) :: ((wsX8_portionOf_r1 ++ wsX8_portionOf_r2) ++ wsX80)
def wsX8_shotOf : List Cond := .code yX8_shotOf cX8_shotOf 4 (some .int) :: ([.constant RX8 64 (-1000001), .fieldLink RX8 7 "DriftGrindersModel" "s" "[I", .constant RX8 96 (-1000004), .methodLink RX8 28 yX8_in, .static yX8_in, .initialized RX8, .code yX8_in cX8_in 3 (some .boolean), .methodLink RX8 106 yX8_away, .instanceMethod yX8_away, .selects RX8 yX8_away yX8_away, .code yX8_away cX8_away 3 (some .int)] ++ wsX80)
def wsX8_best : List Cond := .code yX8_best cX8_best 8 (some .int) :: ([.constant RX8 64 (-1000001), .constant RX8 96 (-1000004), .fieldLink RX8 7 "DriftGrindersModel" "s" "[I", .methodLink RX8 106 yX8_away, .instanceMethod yX8_away, .selects RX8 yX8_away yX8_away, .initialized RX8, .code yX8_away cX8_away 3 (some .int)] ++ wsX80)
def wsX8_wouldTake_r1 : List Cond := [Cond.fieldLink RX8 7 "DriftGrindersModel" "s" "[I", Cond.constant RX8 79 (-1000002), Cond.fieldLink RX8 19 "DriftGrindersModel" "tried" "[I", Cond.methodLink RX8 87 yX8_couldGrind, Cond.instanceMethod yX8_couldGrind, Cond.selects RX8 yX8_couldGrind yX8_couldGrind, Cond.initialized RX8, Cond.code yX8_couldGrind cX8_couldGrind 4 (some .int), Cond.constant RX8 64 (-1000001), Cond.constant RX8 69 (-1000003), Cond.methodLink RX8 60 yX8_isOne, Cond.static yX8_isOne, Cond.code yX8_isOne cX8_isOne 1 (some .boolean), Cond.methodLink RX8 28 yX8_in, Cond.static yX8_in, Cond.code yX8_in cX8_in 3 (some .boolean), Cond.methodLink RX8 65 yX8_hopper, Cond.instanceMethod yX8_hopper, Cond.selects RX8 yX8_hopper yX8_hopper, Cond.code yX8_hopper cX8_hopper 3 (some .int), Cond.methodLink RX8 76 yX8_amounts, Cond.instanceMethod yX8_amounts, Cond.selects RX8 yX8_amounts yX8_amounts, Cond.code yX8_amounts cX8_amounts 5 (some .int)]
def wsX8_wouldTake_r2 : List Cond := [Cond.methodLink RX8 47 yX8_amountOf, Cond.static yX8_amountOf, Cond.code yX8_amountOf cX8_amountOf 1 (some .int), Cond.methodLink RX8 118 yX8_copies, Cond.static yX8_copies, Cond.code yX8_copies cX8_copies 3 none, Cond.methodLink RX8 90 yX8_grinds, Cond.instanceMethod yX8_grinds, Cond.selects RX8 yX8_grinds yX8_grinds, Cond.code yX8_grinds cX8_grinds 4 none, Cond.methodLink RX8 80 yX8_comes, Cond.instanceMethod yX8_comes, Cond.selects RX8 yX8_comes yX8_comes, Cond.code yX8_comes cX8_comes 7 none, Cond.methodLink RX8 73 yX8_gap, Cond.instanceMethod yX8_gap, Cond.selects RX8 yX8_gap yX8_gap, Cond.code yX8_gap cX8_gap 2 (some .int), Cond.methodLink RX8 50 yX8_ofBurr, Cond.instanceMethod yX8_ofBurr, Cond.selects RX8 yX8_ofBurr yX8_ofBurr, Cond.code yX8_ofBurr cX8_ofBurr 3 (some .int), Cond.methodLink RX8 54 yX8_gapBy, Cond.static yX8_gapBy]
def wsX8_wouldTake_r3 : List Cond := [Cond.code yX8_gapBy cX8_gapBy 3 (some .int), Cond.methodLink RX8 84 yX8_overflows, Cond.instanceMethod yX8_overflows, Cond.selects RX8 yX8_overflows yX8_overflows, Cond.code yX8_overflows cX8_overflows 5 none, Cond.methodLink RX8 100 yX8_timeNow, Cond.instanceMethod yX8_timeNow, Cond.selects RX8 yX8_timeNow yX8_timeNow, Cond.code yX8_timeNow cX8_timeNow 3 (some .int), Cond.methodLink RX8 97 yX8_flowOf, Cond.instanceMethod yX8_flowOf, Cond.selects RX8 yX8_flowOf yX8_flowOf, Cond.code yX8_flowOf cX8_flowOf 2 (some .int), Cond.methodLink RX8 40 yX8_kindOf, Cond.static yX8_kindOf, Cond.code yX8_kindOf cX8_kindOf 1 (some .int), Cond.methodLink RX8 44 yX8_gapOf, Cond.static yX8_gapOf, Cond.code yX8_gapOf cX8_gapOf 1 (some .int)]
def wsX8_wouldTake : List Cond := .code yX8_wouldTake cX8_wouldTake 5 (some .int) :: ((wsX8_wouldTake_r1 ++ (wsX8_wouldTake_r2 ++ wsX8_wouldTake_r3)) ++ wsX80)
def wsX8_dialFor : List Cond := .code yX8_dialFor cX8_dialFor 7 (some .int) :: ([.constant RX8 64 (-1000001), .fieldLink RX8 7 "DriftGrindersModel" "s" "[I", .methodLink RX8 60 yX8_isOne, .static yX8_isOne, .initialized RX8, .code yX8_isOne cX8_isOne 1 (some .boolean), .methodLink RX8 28 yX8_in, .static yX8_in, .code yX8_in cX8_in 3 (some .boolean), .methodLink RX8 50 yX8_ofBurr, .instanceMethod yX8_ofBurr, .selects RX8 yX8_ofBurr yX8_ofBurr, .code yX8_ofBurr cX8_ofBurr 3 (some .int), .methodLink RX8 54 yX8_gapBy, .static yX8_gapBy, .code yX8_gapBy cX8_gapBy 3 (some .int), .methodLink RX8 106 yX8_away, .instanceMethod yX8_away, .selects RX8 yX8_away yX8_away, .code yX8_away cX8_away 3 (some .int)] ++ wsX80)
def wsX8_stale_r1 : List Cond := [Cond.constant RX8 64 (-1000001), Cond.fieldLink RX8 7 "DriftGrindersModel" "s" "[I", Cond.constant RX8 79 (-1000002), Cond.methodLink RX8 60 yX8_isOne, Cond.static yX8_isOne, Cond.initialized RX8, Cond.code yX8_isOne cX8_isOne 1 (some .boolean), Cond.methodLink RX8 28 yX8_in, Cond.static yX8_in, Cond.code yX8_in cX8_in 3 (some .boolean), Cond.methodLink RX8 47 yX8_amountOf, Cond.static yX8_amountOf, Cond.code yX8_amountOf cX8_amountOf 1 (some .int), Cond.methodLink RX8 40 yX8_kindOf, Cond.static yX8_kindOf, Cond.code yX8_kindOf cX8_kindOf 1 (some .int), Cond.methodLink RX8 103 yX8_burrIn, Cond.static yX8_burrIn, Cond.code yX8_burrIn cX8_burrIn 1 (some .int), Cond.methodLink RX8 44 yX8_gapOf, Cond.static yX8_gapOf, Cond.code yX8_gapOf cX8_gapOf 1 (some .int), Cond.methodLink RX8 73 yX8_gap, Cond.instanceMethod yX8_gap]
def wsX8_stale_r2 : List Cond := [Cond.selects RX8 yX8_gap yX8_gap, Cond.code yX8_gap cX8_gap 2 (some .int), Cond.methodLink RX8 50 yX8_ofBurr, Cond.instanceMethod yX8_ofBurr, Cond.selects RX8 yX8_ofBurr yX8_ofBurr, Cond.code yX8_ofBurr cX8_ofBurr 3 (some .int), Cond.methodLink RX8 54 yX8_gapBy, Cond.static yX8_gapBy, Cond.code yX8_gapBy cX8_gapBy 3 (some .int)]
def wsX8_stale : List Cond := .code yX8_stale cX8_stale 6 (some .int) :: ((wsX8_stale_r1 ++ wsX8_stale_r2) ++ wsX80)
def wsX8_coolAfter : List Cond := .code yX8_coolAfter cX8_coolAfter 5 (some .int) :: ([.constant RX8 64 (-1000001), .fieldLink RX8 7 "DriftGrindersModel" "s" "[I", .methodLink RX8 60 yX8_isOne, .static yX8_isOne, .initialized RX8, .code yX8_isOne cX8_isOne 1 (some .boolean), .methodLink RX8 28 yX8_in, .static yX8_in, .code yX8_in cX8_in 3 (some .boolean), .methodLink RX8 50 yX8_ofBurr, .instanceMethod yX8_ofBurr, .selects RX8 yX8_ofBurr yX8_ofBurr, .code yX8_ofBurr cX8_ofBurr 3 (some .int), .methodLink RX8 57 yX8_fall, .static yX8_fall, .code yX8_fall cX8_fall 1 (some .int)] ++ wsX80)
def wsX8_count : List Cond := .code yX8_count cX8_count 2 (some .int) :: ([.fieldLink RX8 7 "DriftGrindersModel" "s" "[I", .fieldLink RX8 36 "DriftGrindersModel" "pasts" "I", .fieldLink RX8 122 "DriftGrindersModel" "typed" "I", .constant RX8 64 (-1000001), .methodLink RX8 65 yX8_hopper, .instanceMethod yX8_hopper, .selects RX8 yX8_hopper yX8_hopper, .initialized RX8, .code yX8_hopper cX8_hopper 3 (some .int), .methodLink RX8 76 yX8_amounts, .instanceMethod yX8_amounts, .selects RX8 yX8_amounts yX8_amounts, .code yX8_amounts cX8_amounts 5 (some .int), .methodLink RX8 47 yX8_amountOf, .static yX8_amountOf, .code yX8_amountOf cX8_amountOf 1 (some .int), .methodLink RX8 28 yX8_in, .static yX8_in, .code yX8_in cX8_in 3 (some .boolean)] ++ wsX80)
def wsX8_undo : List Cond := .code yX8_undo cX8_undo 2 (some .int) :: ([.fieldLink RX8 36 "DriftGrindersModel" "pasts" "I", .constant RX8 79 (-1000002), .fieldLink RX8 7 "DriftGrindersModel" "s" "[I", .fieldLink RX8 13 "DriftGrindersModel" "past" "[I"] ++ wsX80)
def wsX8_type : List Cond := .code yX8_type cX8_type 2 (some .int) :: ([.constant RX8 64 (-1000001), .fieldLink RX8 122 "DriftGrindersModel" "typed" "I", .constant RX8 69 (-1000003), .fieldLink RX8 22 "DriftGrindersModel" "text" "[I", .methodLink RX8 28 yX8_in, .static yX8_in, .initialized RX8, .code yX8_in cX8_in 3 (some .boolean)] ++ wsX80)
def wsX8_clearText : List Cond := .code yX8_clearText cX8_clearText 2 (some .int) :: ([.fieldLink RX8 122 "DriftGrindersModel" "typed" "I"] ++ wsX80)
def wsX8_isAt : List Cond := .code yX8_isAt cX8_isAt 3 (some .boolean) :: ([.fieldLink RX8 125 "DriftGrindersModel" "spot" "I", .fieldLink RX8 122 "DriftGrindersModel" "typed" "I", .fieldLink RX8 22 "DriftGrindersModel" "text" "[I", .methodLink RX8 28 yX8_in, .static yX8_in, .initialized RX8, .code yX8_in cX8_in 3 (some .boolean)] ++ wsX80)
def wsX8_sign : List Cond := .code yX8_sign cX8_sign 3 (some .boolean) :: ([.fieldLink RX8 125 "DriftGrindersModel" "spot" "I", .methodLink RX8 128 yX8_isAt, .instanceMethod yX8_isAt, .selects RX8 yX8_isAt yX8_isAt, .initialized RX8, .code yX8_isAt cX8_isAt 3 (some .boolean), .fieldLink RX8 122 "DriftGrindersModel" "typed" "I", .fieldLink RX8 22 "DriftGrindersModel" "text" "[I", .methodLink RX8 28 yX8_in, .static yX8_in, .code yX8_in cX8_in 3 (some .boolean)] ++ wsX80)
def wsX8_number : List Cond := .code yX8_number cX8_number 3 (some .boolean) :: ([.fieldLink RX8 125 "DriftGrindersModel" "spot" "I", .fieldLink RX8 25 "DriftGrindersModel" "told" "[I", .fieldLink RX8 22 "DriftGrindersModel" "text" "[I", .methodLink RX8 128 yX8_isAt, .instanceMethod yX8_isAt, .selects RX8 yX8_isAt yX8_isAt, .initialized RX8, .code yX8_isAt cX8_isAt 3 (some .boolean), .fieldLink RX8 122 "DriftGrindersModel" "typed" "I", .methodLink RX8 28 yX8_in, .static yX8_in, .code yX8_in cX8_in 3 (some .boolean)] ++ wsX80)
def wsX8_reads : List Cond := .code yX8_reads cX8_reads 3 (some .boolean) :: ([.fieldLink RX8 22 "DriftGrindersModel" "text" "[I", .fieldLink RX8 125 "DriftGrindersModel" "spot" "I", .fieldLink RX8 132 "DriftGrindersModel" "order" "I", .methodLink RX8 128 yX8_isAt, .instanceMethod yX8_isAt, .selects RX8 yX8_isAt yX8_isAt, .initialized RX8, .code yX8_isAt cX8_isAt 3 (some .boolean), .fieldLink RX8 122 "DriftGrindersModel" "typed" "I", .methodLink RX8 28 yX8_in, .static yX8_in, .code yX8_in cX8_in 3 (some .boolean), .methodLink RX8 135 yX8_sign, .instanceMethod yX8_sign, .selects RX8 yX8_sign yX8_sign, .code yX8_sign cX8_sign 3 (some .boolean), .methodLink RX8 138 yX8_number, .instanceMethod yX8_number, .selects RX8 yX8_number yX8_number, .code yX8_number cX8_number 3 (some .boolean), .fieldLink RX8 25 "DriftGrindersModel" "told" "[I"] ++ wsX80)
def wsX8_calls_r1 : List Cond := [Cond.fieldLink RX8 132 "DriftGrindersModel" "order" "I", Cond.fieldLink RX8 25 "DriftGrindersModel" "told" "[I", Cond.methodLink RX8 141 yX8_fill, Cond.instanceMethod yX8_fill, Cond.selects RX8 yX8_fill yX8_fill, Cond.initialized RX8, Cond.code yX8_fill cX8_fill 5 (some .int), Cond.constant RX8 64 (-1000001), Cond.fieldLink RX8 7 "DriftGrindersModel" "s" "[I", Cond.constant RX8 69 (-1000003), Cond.methodLink RX8 60 yX8_isOne, Cond.static yX8_isOne, Cond.code yX8_isOne cX8_isOne 1 (some .boolean), Cond.methodLink RX8 28 yX8_in, Cond.static yX8_in, Cond.code yX8_in cX8_in 3 (some .boolean), Cond.methodLink RX8 65 yX8_hopper, Cond.instanceMethod yX8_hopper, Cond.selects RX8 yX8_hopper yX8_hopper, Cond.code yX8_hopper cX8_hopper 3 (some .int), Cond.methodLink RX8 70 yX8_changes, Cond.instanceMethod yX8_changes, Cond.selects RX8 yX8_changes yX8_changes, Cond.code yX8_changes cX8_changes 2 none]
def wsX8_calls_r2 : List Cond := [Cond.fieldLink RX8 32 "DriftGrindersModel" "runs" "Z", Cond.fieldLink RX8 36 "DriftGrindersModel" "pasts" "I", Cond.fieldLink RX8 13 "DriftGrindersModel" "past" "[I", Cond.methodLink RX8 144 yX8_grind, Cond.instanceMethod yX8_grind, Cond.selects RX8 yX8_grind yX8_grind, Cond.code yX8_grind cX8_grind 5 (some .int), Cond.constant RX8 96 (-1000004), Cond.methodLink RX8 87 yX8_couldGrind, Cond.instanceMethod yX8_couldGrind, Cond.selects RX8 yX8_couldGrind yX8_couldGrind, Cond.code yX8_couldGrind cX8_couldGrind 4 (some .int), Cond.constant RX8 79 (-1000002), Cond.methodLink RX8 76 yX8_amounts, Cond.instanceMethod yX8_amounts, Cond.selects RX8 yX8_amounts yX8_amounts, Cond.code yX8_amounts cX8_amounts 5 (some .int), Cond.methodLink RX8 47 yX8_amountOf, Cond.static yX8_amountOf, Cond.code yX8_amountOf cX8_amountOf 1 (some .int), Cond.methodLink RX8 90 yX8_grinds, Cond.instanceMethod yX8_grinds, Cond.selects RX8 yX8_grinds yX8_grinds, Cond.code yX8_grinds cX8_grinds 4 none]
def wsX8_calls_r3 : List Cond := [Cond.methodLink RX8 80 yX8_comes, Cond.instanceMethod yX8_comes, Cond.selects RX8 yX8_comes yX8_comes, Cond.code yX8_comes cX8_comes 7 none, Cond.methodLink RX8 73 yX8_gap, Cond.instanceMethod yX8_gap, Cond.selects RX8 yX8_gap yX8_gap, Cond.code yX8_gap cX8_gap 2 (some .int), Cond.methodLink RX8 50 yX8_ofBurr, Cond.instanceMethod yX8_ofBurr, Cond.selects RX8 yX8_ofBurr yX8_ofBurr, Cond.code yX8_ofBurr cX8_ofBurr 3 (some .int), Cond.methodLink RX8 54 yX8_gapBy, Cond.static yX8_gapBy, Cond.code yX8_gapBy cX8_gapBy 3 (some .int), Cond.methodLink RX8 84 yX8_overflows, Cond.instanceMethod yX8_overflows, Cond.selects RX8 yX8_overflows yX8_overflows, Cond.code yX8_overflows cX8_overflows 5 none, Cond.methodLink RX8 93 yX8_passes, Cond.instanceMethod yX8_passes, Cond.selects RX8 yX8_passes yX8_passes, Cond.code yX8_passes cX8_passes 6 (some .int), Cond.methodLink RX8 57 yX8_fall]
def wsX8_calls_r4 : List Cond := [Cond.static yX8_fall, Cond.code yX8_fall cX8_fall 1 (some .int), Cond.methodLink RX8 147 yX8_dial, Cond.instanceMethod yX8_dial, Cond.selects RX8 yX8_dial yX8_dial, Cond.code yX8_dial cX8_dial 4 (some .int), Cond.methodLink RX8 150 yX8_rest, Cond.instanceMethod yX8_rest, Cond.selects RX8 yX8_rest yX8_rest, Cond.code yX8_rest cX8_rest 2 (some .int), Cond.methodLink RX8 153 yX8_shot, Cond.instanceMethod yX8_shot, Cond.selects RX8 yX8_shot yX8_shot, Cond.code yX8_shot cX8_shot 7 (some .int), Cond.methodLink RX8 100 yX8_timeNow, Cond.instanceMethod yX8_timeNow, Cond.selects RX8 yX8_timeNow yX8_timeNow, Cond.code yX8_timeNow cX8_timeNow 3 (some .int), Cond.methodLink RX8 97 yX8_flowOf, Cond.instanceMethod yX8_flowOf, Cond.selects RX8 yX8_flowOf yX8_flowOf, Cond.code yX8_flowOf cX8_flowOf 2 (some .int), Cond.methodLink RX8 40 yX8_kindOf, Cond.static yX8_kindOf]
def wsX8_calls_r5 : List Cond := [Cond.code yX8_kindOf cX8_kindOf 1 (some .int), Cond.methodLink RX8 44 yX8_gapOf, Cond.static yX8_gapOf, Cond.code yX8_gapOf cX8_gapOf 1 (some .int), Cond.methodLink RX8 103 yX8_burrIn, Cond.static yX8_burrIn, Cond.code yX8_burrIn cX8_burrIn 1 (some .int), Cond.methodLink RX8 106 yX8_away, Cond.instanceMethod yX8_away, Cond.selects RX8 yX8_away yX8_away, Cond.code yX8_away cX8_away 3 (some .int), Cond.methodLink RX8 109 yX8_corrects, Cond.instanceMethod yX8_corrects, Cond.selects RX8 yX8_corrects yX8_corrects, Cond.code yX8_corrects cX8_corrects 4 none, Cond.methodLink RX8 156 yX8_purge, Cond.instanceMethod yX8_purge, Cond.selects RX8 yX8_purge yX8_purge, Cond.code yX8_purge cX8_purge 2 (some .int)]
def wsX8_calls : List Cond := .code yX8_calls cX8_calls 1 (some .int) :: ((wsX8_calls_r1 ++ (wsX8_calls_r2 ++ (wsX8_calls_r3 ++ (wsX8_calls_r4 ++ wsX8_calls_r5)))) ++ wsX80)
def wsX8_plays_r1 : List Cond := [Cond.fieldLink RX8 32 "DriftGrindersModel" "runs" "Z", Cond.fieldLink RX8 125 "DriftGrindersModel" "spot" "I", Cond.fieldLink RX8 159 "DriftGrindersModel" "from" "I", Cond.fieldLink RX8 162 "DriftGrindersModel" "orders" "I", Cond.fieldLink RX8 122 "DriftGrindersModel" "typed" "I", Cond.fieldLink RX8 172 "DriftGrindersModel" "reason" "I", Cond.fieldLink RX8 175 "DriftGrindersModel" "cause" "I", Cond.methodLink RX8 165 yX8_reads, Cond.instanceMethod yX8_reads, Cond.selects RX8 yX8_reads yX8_reads, Cond.initialized RX8, Cond.code yX8_reads cX8_reads 3 (some .boolean), Cond.fieldLink RX8 22 "DriftGrindersModel" "text" "[I", Cond.fieldLink RX8 132 "DriftGrindersModel" "order" "I", Cond.methodLink RX8 128 yX8_isAt, Cond.instanceMethod yX8_isAt, Cond.selects RX8 yX8_isAt yX8_isAt, Cond.code yX8_isAt cX8_isAt 3 (some .boolean), Cond.methodLink RX8 28 yX8_in, Cond.static yX8_in, Cond.code yX8_in cX8_in 3 (some .boolean), Cond.methodLink RX8 135 yX8_sign, Cond.instanceMethod yX8_sign, Cond.selects RX8 yX8_sign yX8_sign]
def wsX8_plays_r2 : List Cond := [Cond.code yX8_sign cX8_sign 3 (some .boolean), Cond.methodLink RX8 138 yX8_number, Cond.instanceMethod yX8_number, Cond.selects RX8 yX8_number yX8_number, Cond.code yX8_number cX8_number 3 (some .boolean), Cond.fieldLink RX8 25 "DriftGrindersModel" "told" "[I", Cond.methodLink RX8 169 yX8_calls, Cond.instanceMethod yX8_calls, Cond.selects RX8 yX8_calls yX8_calls, Cond.code yX8_calls cX8_calls 1 (some .int), Cond.methodLink RX8 141 yX8_fill, Cond.instanceMethod yX8_fill, Cond.selects RX8 yX8_fill yX8_fill, Cond.code yX8_fill cX8_fill 5 (some .int), Cond.constant RX8 64 (-1000001), Cond.fieldLink RX8 7 "DriftGrindersModel" "s" "[I", Cond.constant RX8 69 (-1000003), Cond.methodLink RX8 60 yX8_isOne, Cond.static yX8_isOne, Cond.code yX8_isOne cX8_isOne 1 (some .boolean), Cond.methodLink RX8 65 yX8_hopper, Cond.instanceMethod yX8_hopper, Cond.selects RX8 yX8_hopper yX8_hopper, Cond.code yX8_hopper cX8_hopper 3 (some .int)]
def wsX8_plays_r3 : List Cond := [Cond.methodLink RX8 70 yX8_changes, Cond.instanceMethod yX8_changes, Cond.selects RX8 yX8_changes yX8_changes, Cond.code yX8_changes cX8_changes 2 none, Cond.fieldLink RX8 36 "DriftGrindersModel" "pasts" "I", Cond.fieldLink RX8 13 "DriftGrindersModel" "past" "[I", Cond.methodLink RX8 144 yX8_grind, Cond.instanceMethod yX8_grind, Cond.selects RX8 yX8_grind yX8_grind, Cond.code yX8_grind cX8_grind 5 (some .int), Cond.constant RX8 96 (-1000004), Cond.methodLink RX8 87 yX8_couldGrind, Cond.instanceMethod yX8_couldGrind, Cond.selects RX8 yX8_couldGrind yX8_couldGrind, Cond.code yX8_couldGrind cX8_couldGrind 4 (some .int), Cond.constant RX8 79 (-1000002), Cond.methodLink RX8 76 yX8_amounts, Cond.instanceMethod yX8_amounts, Cond.selects RX8 yX8_amounts yX8_amounts, Cond.code yX8_amounts cX8_amounts 5 (some .int), Cond.methodLink RX8 47 yX8_amountOf, Cond.static yX8_amountOf, Cond.code yX8_amountOf cX8_amountOf 1 (some .int), Cond.methodLink RX8 90 yX8_grinds]
def wsX8_plays_r4 : List Cond := [Cond.instanceMethod yX8_grinds, Cond.selects RX8 yX8_grinds yX8_grinds, Cond.code yX8_grinds cX8_grinds 4 none, Cond.methodLink RX8 80 yX8_comes, Cond.instanceMethod yX8_comes, Cond.selects RX8 yX8_comes yX8_comes, Cond.code yX8_comes cX8_comes 7 none, Cond.methodLink RX8 73 yX8_gap, Cond.instanceMethod yX8_gap, Cond.selects RX8 yX8_gap yX8_gap, Cond.code yX8_gap cX8_gap 2 (some .int), Cond.methodLink RX8 50 yX8_ofBurr, Cond.instanceMethod yX8_ofBurr, Cond.selects RX8 yX8_ofBurr yX8_ofBurr, Cond.code yX8_ofBurr cX8_ofBurr 3 (some .int), Cond.methodLink RX8 54 yX8_gapBy, Cond.static yX8_gapBy, Cond.code yX8_gapBy cX8_gapBy 3 (some .int), Cond.methodLink RX8 84 yX8_overflows, Cond.instanceMethod yX8_overflows, Cond.selects RX8 yX8_overflows yX8_overflows, Cond.code yX8_overflows cX8_overflows 5 none, Cond.methodLink RX8 93 yX8_passes, Cond.instanceMethod yX8_passes]
def wsX8_plays_r5 : List Cond := [Cond.selects RX8 yX8_passes yX8_passes, Cond.code yX8_passes cX8_passes 6 (some .int), Cond.methodLink RX8 57 yX8_fall, Cond.static yX8_fall, Cond.code yX8_fall cX8_fall 1 (some .int), Cond.methodLink RX8 147 yX8_dial, Cond.instanceMethod yX8_dial, Cond.selects RX8 yX8_dial yX8_dial, Cond.code yX8_dial cX8_dial 4 (some .int), Cond.methodLink RX8 150 yX8_rest, Cond.instanceMethod yX8_rest, Cond.selects RX8 yX8_rest yX8_rest, Cond.code yX8_rest cX8_rest 2 (some .int), Cond.methodLink RX8 153 yX8_shot, Cond.instanceMethod yX8_shot, Cond.selects RX8 yX8_shot yX8_shot, Cond.code yX8_shot cX8_shot 7 (some .int), Cond.methodLink RX8 100 yX8_timeNow, Cond.instanceMethod yX8_timeNow, Cond.selects RX8 yX8_timeNow yX8_timeNow, Cond.code yX8_timeNow cX8_timeNow 3 (some .int), Cond.methodLink RX8 97 yX8_flowOf, Cond.instanceMethod yX8_flowOf, Cond.selects RX8 yX8_flowOf yX8_flowOf]
def wsX8_plays_r6 : List Cond := [Cond.code yX8_flowOf cX8_flowOf 2 (some .int), Cond.methodLink RX8 40 yX8_kindOf, Cond.static yX8_kindOf, Cond.code yX8_kindOf cX8_kindOf 1 (some .int), Cond.methodLink RX8 44 yX8_gapOf, Cond.static yX8_gapOf, Cond.code yX8_gapOf cX8_gapOf 1 (some .int), Cond.methodLink RX8 103 yX8_burrIn, Cond.static yX8_burrIn, Cond.code yX8_burrIn cX8_burrIn 1 (some .int), Cond.methodLink RX8 106 yX8_away, Cond.instanceMethod yX8_away, Cond.selects RX8 yX8_away yX8_away, Cond.code yX8_away cX8_away 3 (some .int), Cond.methodLink RX8 109 yX8_corrects, Cond.instanceMethod yX8_corrects, Cond.selects RX8 yX8_corrects yX8_corrects, Cond.code yX8_corrects cX8_corrects 4 none, Cond.methodLink RX8 156 yX8_purge, Cond.instanceMethod yX8_purge, Cond.selects RX8 yX8_purge yX8_purge, Cond.code yX8_purge cX8_purge 2 (some .int)]
def wsX8_plays : List Cond := .code yX8_plays cX8_plays 4 (some .boolean) :: ((wsX8_plays_r1 ++ (wsX8_plays_r2 ++ (wsX8_plays_r3 ++ (wsX8_plays_r4 ++ (wsX8_plays_r5 ++ wsX8_plays_r6))))) ++ wsX80)
def wsX8_fault_r1 : List Cond := [Cond.constant RX8 64 (-1000001), Cond.fieldLink RX8 7 "DriftGrindersModel" "s" "[I", Cond.fieldLink RX8 16 "DriftGrindersModel" "held" "[I", Cond.constant RX8 96 (-1000004), Cond.fieldLink RX8 159 "DriftGrindersModel" "from" "I", Cond.fieldLink RX8 172 "DriftGrindersModel" "reason" "I", Cond.fieldLink RX8 175 "DriftGrindersModel" "cause" "I", Cond.methodLink RX8 28 yX8_in, Cond.static yX8_in, Cond.initialized RX8, Cond.code yX8_in cX8_in 3 (some .boolean), Cond.methodLink RX8 118 yX8_copies, Cond.static yX8_copies, Cond.code yX8_copies cX8_copies 3 none, Cond.methodLink RX8 178 yX8_plays, Cond.instanceMethod yX8_plays, Cond.selects RX8 yX8_plays yX8_plays, Cond.code yX8_plays cX8_plays 4 (some .boolean), Cond.fieldLink RX8 32 "DriftGrindersModel" "runs" "Z", Cond.fieldLink RX8 125 "DriftGrindersModel" "spot" "I", Cond.fieldLink RX8 162 "DriftGrindersModel" "orders" "I", Cond.fieldLink RX8 122 "DriftGrindersModel" "typed" "I", Cond.methodLink RX8 165 yX8_reads, Cond.instanceMethod yX8_reads]
def wsX8_fault_r2 : List Cond := [Cond.selects RX8 yX8_reads yX8_reads, Cond.code yX8_reads cX8_reads 3 (some .boolean), Cond.fieldLink RX8 22 "DriftGrindersModel" "text" "[I", Cond.fieldLink RX8 132 "DriftGrindersModel" "order" "I", Cond.methodLink RX8 128 yX8_isAt, Cond.instanceMethod yX8_isAt, Cond.selects RX8 yX8_isAt yX8_isAt, Cond.code yX8_isAt cX8_isAt 3 (some .boolean), Cond.methodLink RX8 135 yX8_sign, Cond.instanceMethod yX8_sign, Cond.selects RX8 yX8_sign yX8_sign, Cond.code yX8_sign cX8_sign 3 (some .boolean), Cond.methodLink RX8 138 yX8_number, Cond.instanceMethod yX8_number, Cond.selects RX8 yX8_number yX8_number, Cond.code yX8_number cX8_number 3 (some .boolean), Cond.fieldLink RX8 25 "DriftGrindersModel" "told" "[I", Cond.methodLink RX8 169 yX8_calls, Cond.instanceMethod yX8_calls, Cond.selects RX8 yX8_calls yX8_calls, Cond.code yX8_calls cX8_calls 1 (some .int), Cond.methodLink RX8 141 yX8_fill, Cond.instanceMethod yX8_fill, Cond.selects RX8 yX8_fill yX8_fill]
def wsX8_fault_r3 : List Cond := [Cond.code yX8_fill cX8_fill 5 (some .int), Cond.constant RX8 69 (-1000003), Cond.methodLink RX8 60 yX8_isOne, Cond.static yX8_isOne, Cond.code yX8_isOne cX8_isOne 1 (some .boolean), Cond.methodLink RX8 65 yX8_hopper, Cond.instanceMethod yX8_hopper, Cond.selects RX8 yX8_hopper yX8_hopper, Cond.code yX8_hopper cX8_hopper 3 (some .int), Cond.methodLink RX8 70 yX8_changes, Cond.instanceMethod yX8_changes, Cond.selects RX8 yX8_changes yX8_changes, Cond.code yX8_changes cX8_changes 2 none, Cond.fieldLink RX8 36 "DriftGrindersModel" "pasts" "I", Cond.fieldLink RX8 13 "DriftGrindersModel" "past" "[I", Cond.methodLink RX8 144 yX8_grind, Cond.instanceMethod yX8_grind, Cond.selects RX8 yX8_grind yX8_grind, Cond.code yX8_grind cX8_grind 5 (some .int), Cond.methodLink RX8 87 yX8_couldGrind, Cond.instanceMethod yX8_couldGrind, Cond.selects RX8 yX8_couldGrind yX8_couldGrind, Cond.code yX8_couldGrind cX8_couldGrind 4 (some .int), Cond.constant RX8 79 (-1000002)]
def wsX8_fault_r4 : List Cond := [Cond.methodLink RX8 76 yX8_amounts, Cond.instanceMethod yX8_amounts, Cond.selects RX8 yX8_amounts yX8_amounts, Cond.code yX8_amounts cX8_amounts 5 (some .int), Cond.methodLink RX8 47 yX8_amountOf, Cond.static yX8_amountOf, Cond.code yX8_amountOf cX8_amountOf 1 (some .int), Cond.methodLink RX8 90 yX8_grinds, Cond.instanceMethod yX8_grinds, Cond.selects RX8 yX8_grinds yX8_grinds, Cond.code yX8_grinds cX8_grinds 4 none, Cond.methodLink RX8 80 yX8_comes, Cond.instanceMethod yX8_comes, Cond.selects RX8 yX8_comes yX8_comes, Cond.code yX8_comes cX8_comes 7 none, Cond.methodLink RX8 73 yX8_gap, Cond.instanceMethod yX8_gap, Cond.selects RX8 yX8_gap yX8_gap, Cond.code yX8_gap cX8_gap 2 (some .int), Cond.methodLink RX8 50 yX8_ofBurr, Cond.instanceMethod yX8_ofBurr, Cond.selects RX8 yX8_ofBurr yX8_ofBurr, Cond.code yX8_ofBurr cX8_ofBurr 3 (some .int), Cond.methodLink RX8 54 yX8_gapBy]
def wsX8_fault_r5 : List Cond := [Cond.static yX8_gapBy, Cond.code yX8_gapBy cX8_gapBy 3 (some .int), Cond.methodLink RX8 84 yX8_overflows, Cond.instanceMethod yX8_overflows, Cond.selects RX8 yX8_overflows yX8_overflows, Cond.code yX8_overflows cX8_overflows 5 none, Cond.methodLink RX8 93 yX8_passes, Cond.instanceMethod yX8_passes, Cond.selects RX8 yX8_passes yX8_passes, Cond.code yX8_passes cX8_passes 6 (some .int), Cond.methodLink RX8 57 yX8_fall, Cond.static yX8_fall, Cond.code yX8_fall cX8_fall 1 (some .int), Cond.methodLink RX8 147 yX8_dial, Cond.instanceMethod yX8_dial, Cond.selects RX8 yX8_dial yX8_dial, Cond.code yX8_dial cX8_dial 4 (some .int), Cond.methodLink RX8 150 yX8_rest, Cond.instanceMethod yX8_rest, Cond.selects RX8 yX8_rest yX8_rest, Cond.code yX8_rest cX8_rest 2 (some .int), Cond.methodLink RX8 153 yX8_shot, Cond.instanceMethod yX8_shot, Cond.selects RX8 yX8_shot yX8_shot]
def wsX8_fault_r6 : List Cond := [Cond.code yX8_shot cX8_shot 7 (some .int), Cond.methodLink RX8 100 yX8_timeNow, Cond.instanceMethod yX8_timeNow, Cond.selects RX8 yX8_timeNow yX8_timeNow, Cond.code yX8_timeNow cX8_timeNow 3 (some .int), Cond.methodLink RX8 97 yX8_flowOf, Cond.instanceMethod yX8_flowOf, Cond.selects RX8 yX8_flowOf yX8_flowOf, Cond.code yX8_flowOf cX8_flowOf 2 (some .int), Cond.methodLink RX8 40 yX8_kindOf, Cond.static yX8_kindOf, Cond.code yX8_kindOf cX8_kindOf 1 (some .int), Cond.methodLink RX8 44 yX8_gapOf, Cond.static yX8_gapOf, Cond.code yX8_gapOf cX8_gapOf 1 (some .int), Cond.methodLink RX8 103 yX8_burrIn, Cond.static yX8_burrIn, Cond.code yX8_burrIn cX8_burrIn 1 (some .int), Cond.methodLink RX8 106 yX8_away, Cond.instanceMethod yX8_away, Cond.selects RX8 yX8_away yX8_away, Cond.code yX8_away cX8_away 3 (some .int), Cond.methodLink RX8 109 yX8_corrects, Cond.instanceMethod yX8_corrects]
def wsX8_fault_r7 : List Cond := [Cond.selects RX8 yX8_corrects yX8_corrects, Cond.code yX8_corrects cX8_corrects 4 none, Cond.methodLink RX8 156 yX8_purge, Cond.instanceMethod yX8_purge, Cond.selects RX8 yX8_purge yX8_purge, Cond.code yX8_purge cX8_purge 2 (some .int)]
def wsX8_fault : List Cond := .code yX8_fault cX8_fault 3 (some .int) :: ((wsX8_fault_r1 ++ (wsX8_fault_r2 ++ (wsX8_fault_r3 ++ (wsX8_fault_r4 ++ (wsX8_fault_r5 ++ (wsX8_fault_r6 ++ wsX8_fault_r7)))))) ++ wsX80)
def wsX8_play_r1 : List Cond := [Cond.fieldLink RX8 7 "DriftGrindersModel" "s" "[I", Cond.fieldLink RX8 16 "DriftGrindersModel" "held" "[I", Cond.constant RX8 79 (-1000002), Cond.fieldLink RX8 162 "DriftGrindersModel" "orders" "I", Cond.constant RX8 96 (-1000004), Cond.methodLink RX8 118 yX8_copies, Cond.static yX8_copies, Cond.initialized RX8, Cond.code yX8_copies cX8_copies 3 none, Cond.methodLink RX8 178 yX8_plays, Cond.instanceMethod yX8_plays, Cond.selects RX8 yX8_plays yX8_plays, Cond.code yX8_plays cX8_plays 4 (some .boolean), Cond.fieldLink RX8 32 "DriftGrindersModel" "runs" "Z", Cond.fieldLink RX8 125 "DriftGrindersModel" "spot" "I", Cond.fieldLink RX8 159 "DriftGrindersModel" "from" "I", Cond.fieldLink RX8 122 "DriftGrindersModel" "typed" "I", Cond.fieldLink RX8 172 "DriftGrindersModel" "reason" "I", Cond.fieldLink RX8 175 "DriftGrindersModel" "cause" "I", Cond.methodLink RX8 165 yX8_reads, Cond.instanceMethod yX8_reads, Cond.selects RX8 yX8_reads yX8_reads, Cond.code yX8_reads cX8_reads 3 (some .boolean), Cond.fieldLink RX8 22 "DriftGrindersModel" "text" "[I"]
def wsX8_play_r2 : List Cond := [Cond.fieldLink RX8 132 "DriftGrindersModel" "order" "I", Cond.methodLink RX8 128 yX8_isAt, Cond.instanceMethod yX8_isAt, Cond.selects RX8 yX8_isAt yX8_isAt, Cond.code yX8_isAt cX8_isAt 3 (some .boolean), Cond.methodLink RX8 28 yX8_in, Cond.static yX8_in, Cond.code yX8_in cX8_in 3 (some .boolean), Cond.methodLink RX8 135 yX8_sign, Cond.instanceMethod yX8_sign, Cond.selects RX8 yX8_sign yX8_sign, Cond.code yX8_sign cX8_sign 3 (some .boolean), Cond.methodLink RX8 138 yX8_number, Cond.instanceMethod yX8_number, Cond.selects RX8 yX8_number yX8_number, Cond.code yX8_number cX8_number 3 (some .boolean), Cond.fieldLink RX8 25 "DriftGrindersModel" "told" "[I", Cond.methodLink RX8 169 yX8_calls, Cond.instanceMethod yX8_calls, Cond.selects RX8 yX8_calls yX8_calls, Cond.code yX8_calls cX8_calls 1 (some .int), Cond.methodLink RX8 141 yX8_fill, Cond.instanceMethod yX8_fill, Cond.selects RX8 yX8_fill yX8_fill]
def wsX8_play_r3 : List Cond := [Cond.code yX8_fill cX8_fill 5 (some .int), Cond.constant RX8 64 (-1000001), Cond.constant RX8 69 (-1000003), Cond.methodLink RX8 60 yX8_isOne, Cond.static yX8_isOne, Cond.code yX8_isOne cX8_isOne 1 (some .boolean), Cond.methodLink RX8 65 yX8_hopper, Cond.instanceMethod yX8_hopper, Cond.selects RX8 yX8_hopper yX8_hopper, Cond.code yX8_hopper cX8_hopper 3 (some .int), Cond.methodLink RX8 70 yX8_changes, Cond.instanceMethod yX8_changes, Cond.selects RX8 yX8_changes yX8_changes, Cond.code yX8_changes cX8_changes 2 none, Cond.fieldLink RX8 36 "DriftGrindersModel" "pasts" "I", Cond.fieldLink RX8 13 "DriftGrindersModel" "past" "[I", Cond.methodLink RX8 144 yX8_grind, Cond.instanceMethod yX8_grind, Cond.selects RX8 yX8_grind yX8_grind, Cond.code yX8_grind cX8_grind 5 (some .int), Cond.methodLink RX8 87 yX8_couldGrind, Cond.instanceMethod yX8_couldGrind, Cond.selects RX8 yX8_couldGrind yX8_couldGrind, Cond.code yX8_couldGrind cX8_couldGrind 4 (some .int)]
def wsX8_play_r4 : List Cond := [Cond.methodLink RX8 76 yX8_amounts, Cond.instanceMethod yX8_amounts, Cond.selects RX8 yX8_amounts yX8_amounts, Cond.code yX8_amounts cX8_amounts 5 (some .int), Cond.methodLink RX8 47 yX8_amountOf, Cond.static yX8_amountOf, Cond.code yX8_amountOf cX8_amountOf 1 (some .int), Cond.methodLink RX8 90 yX8_grinds, Cond.instanceMethod yX8_grinds, Cond.selects RX8 yX8_grinds yX8_grinds, Cond.code yX8_grinds cX8_grinds 4 none, Cond.methodLink RX8 80 yX8_comes, Cond.instanceMethod yX8_comes, Cond.selects RX8 yX8_comes yX8_comes, Cond.code yX8_comes cX8_comes 7 none, Cond.methodLink RX8 73 yX8_gap, Cond.instanceMethod yX8_gap, Cond.selects RX8 yX8_gap yX8_gap, Cond.code yX8_gap cX8_gap 2 (some .int), Cond.methodLink RX8 50 yX8_ofBurr, Cond.instanceMethod yX8_ofBurr, Cond.selects RX8 yX8_ofBurr yX8_ofBurr, Cond.code yX8_ofBurr cX8_ofBurr 3 (some .int), Cond.methodLink RX8 54 yX8_gapBy]
def wsX8_play_r5 : List Cond := [Cond.static yX8_gapBy, Cond.code yX8_gapBy cX8_gapBy 3 (some .int), Cond.methodLink RX8 84 yX8_overflows, Cond.instanceMethod yX8_overflows, Cond.selects RX8 yX8_overflows yX8_overflows, Cond.code yX8_overflows cX8_overflows 5 none, Cond.methodLink RX8 93 yX8_passes, Cond.instanceMethod yX8_passes, Cond.selects RX8 yX8_passes yX8_passes, Cond.code yX8_passes cX8_passes 6 (some .int), Cond.methodLink RX8 57 yX8_fall, Cond.static yX8_fall, Cond.code yX8_fall cX8_fall 1 (some .int), Cond.methodLink RX8 147 yX8_dial, Cond.instanceMethod yX8_dial, Cond.selects RX8 yX8_dial yX8_dial, Cond.code yX8_dial cX8_dial 4 (some .int), Cond.methodLink RX8 150 yX8_rest, Cond.instanceMethod yX8_rest, Cond.selects RX8 yX8_rest yX8_rest, Cond.code yX8_rest cX8_rest 2 (some .int), Cond.methodLink RX8 153 yX8_shot, Cond.instanceMethod yX8_shot, Cond.selects RX8 yX8_shot yX8_shot]
def wsX8_play_r6 : List Cond := [Cond.code yX8_shot cX8_shot 7 (some .int), Cond.methodLink RX8 100 yX8_timeNow, Cond.instanceMethod yX8_timeNow, Cond.selects RX8 yX8_timeNow yX8_timeNow, Cond.code yX8_timeNow cX8_timeNow 3 (some .int), Cond.methodLink RX8 97 yX8_flowOf, Cond.instanceMethod yX8_flowOf, Cond.selects RX8 yX8_flowOf yX8_flowOf, Cond.code yX8_flowOf cX8_flowOf 2 (some .int), Cond.methodLink RX8 40 yX8_kindOf, Cond.static yX8_kindOf, Cond.code yX8_kindOf cX8_kindOf 1 (some .int), Cond.methodLink RX8 44 yX8_gapOf, Cond.static yX8_gapOf, Cond.code yX8_gapOf cX8_gapOf 1 (some .int), Cond.methodLink RX8 103 yX8_burrIn, Cond.static yX8_burrIn, Cond.code yX8_burrIn cX8_burrIn 1 (some .int), Cond.methodLink RX8 106 yX8_away, Cond.instanceMethod yX8_away, Cond.selects RX8 yX8_away yX8_away, Cond.code yX8_away cX8_away 3 (some .int), Cond.methodLink RX8 109 yX8_corrects, Cond.instanceMethod yX8_corrects]
def wsX8_play_r7 : List Cond := [Cond.selects RX8 yX8_corrects yX8_corrects, Cond.code yX8_corrects cX8_corrects 4 none, Cond.methodLink RX8 156 yX8_purge, Cond.instanceMethod yX8_purge, Cond.selects RX8 yX8_purge yX8_purge, Cond.code yX8_purge cX8_purge 2 (some .int)]
def wsX8_play : List Cond := .code yX8_play cX8_play 2 (some .int) :: ((wsX8_play_r1 ++ (wsX8_play_r2 ++ (wsX8_play_r3 ++ (wsX8_play_r4 ++ (wsX8_play_r5 ++ (wsX8_play_r6 ++ wsX8_play_r7)))))) ++ wsX80)
def wsJ9_abs_0f7a4 : List Cond := .code yJ9_abs_0f7a4 cJ9_abs_0f7a4 1 (some .int) :: ([])
def wsJ9_max_7cf53 : List Cond := .code yJ9_max_7cf53 cJ9_max_7cf53 2 (some .int) :: ([])
def wsJ9_min_7cf53 : List Cond := .code yJ9_min_7cf53 cJ9_min_7cf53 2 (some .int) :: ([])
def wsL_law_r1 : List Cond := [Cond.classLink RL 7 RX7, Cond.instantiable RX7 4, Cond.initialized RX7, Cond.classLink RL 10 RX8, Cond.instantiable RX8 15, Cond.initialized RX8, Cond.methodLink RL 9 yX7_init, Cond.instanceMethod yX7_init, Cond.code yX7_init cX7_init 1 none, Cond.methodLink RX7 1 objectInit, Cond.instanceMethod objectInit, Cond.code objectInit ⟨#[0xb1]⟩ 1 none, Cond.classLink RX7 7 RX2, Cond.instantiable RX2 5, Cond.initialized RX2, Cond.fieldLink RX7 10 "DriftGrinders" "history" "LDriftGrinders$History;", Cond.classLink RX7 16 RX4, Cond.instantiable RX4 10, Cond.initialized RX4, Cond.fieldLink RX7 19 "DriftGrinders" "text" "LDriftGrinders$Orders;", Cond.classLink RX7 23 RX1, Cond.instantiable RX1 13, Cond.initialized RX1, Cond.fieldLink RX7 26 "DriftGrinders" "now" "LDriftGrinders$Grinder;"]
def wsL_law_r2 : List Cond := [Cond.fieldLink RX7 30 "DriftGrinders" "spare" "LDriftGrinders$Grinder;", Cond.instanceMethod yX2_init, Cond.code yX2_init cX2_init 1 none, Cond.methodLink RX2 3 objectInit, Cond.classLink RX2 9 RX1, Cond.fieldLink RX2 12 "DriftGrinders$History" "latest" "LDriftGrinders$Grinder;", Cond.fieldLink RX2 18 "DriftGrinders$History" "second" "LDriftGrinders$Grinder;", Cond.fieldLink RX2 21 "DriftGrinders$History" "third" "LDriftGrinders$Grinder;", Cond.fieldLink RX2 24 "DriftGrinders$History" "oldest" "LDriftGrinders$Grinder;", Cond.instanceMethod yX1_init, Cond.code yX1_init cX1_init 1 none, Cond.methodLink RX1 3 objectInit, Cond.classLink RX1 9 RX3, Cond.instantiable RX3 1, Cond.initialized RX3, Cond.fieldLink RX1 12 "DriftGrinders$Grinder" "hopper" "LDriftGrinders$Hopper;", Cond.classLink RX1 18 RX0, Cond.instantiable RX0 4, Cond.initialized RX0, Cond.fieldLink RX1 21 "DriftGrinders$Grinder" "burr0" "LDriftGrinders$Burr;", Cond.fieldLink RX1 25 "DriftGrinders$Grinder" "burr1" "LDriftGrinders$Burr;", Cond.classLink RX1 28 RX5, Cond.instantiable RX5 4, Cond.initialized RX5]
def wsL_law_r3 : List Cond := [Cond.fieldLink RX1 33 "DriftGrinders$Grinder" "chute" "LDriftGrinders$Row;", Cond.fieldLink RX1 37 "DriftGrinders$Grinder" "basket" "LDriftGrinders$Row;", Cond.classLink RX1 40 RX6, Cond.instantiable RX6 3, Cond.initialized RX6, Cond.fieldLink RX1 43 "DriftGrinders$Grinder" "shots" "LDriftGrinders$Shots;", Cond.arrayClass .int, Cond.fieldLink RX1 47 "DriftGrinders$Grinder" "settings" "[I", Cond.instanceMethod yX3_init, Cond.code yX3_init cX3_init 1 none, Cond.methodLink RX3 3 objectInit, Cond.classLink RX3 9 RX5, Cond.fieldLink RX3 14 "DriftGrinders$Hopper" "lots" "LDriftGrinders$Row;", Cond.methodLink RX3 11 yX5_init, Cond.instanceMethod yX5_init, Cond.code yX5_init cX5_init 2 none, Cond.methodLink RX5 1 objectInit, Cond.fieldLink RX5 7 "DriftGrinders$Row" "amounts" "[I", Cond.fieldLink RX5 13 "DriftGrinders$Row" "marks" "[I", Cond.instanceMethod yX0_init, Cond.code yX0_init cX0_init 1 none, Cond.methodLink RX0 3 objectInit, Cond.fieldLink RX0 9 "DriftGrinders$Burr" "dial" "I", Cond.methodLink RX1 30 yX5_init]
def wsL_law_r4 : List Cond := [Cond.instanceMethod yX6_init, Cond.code yX6_init cX6_init 1 none, Cond.methodLink RX6 3 objectInit, Cond.fieldLink RX6 11 "DriftGrinders$Shots" "facts" "[I", Cond.instanceMethod yX4_init, Cond.code yX4_init cX4_init 1 none, Cond.methodLink RX4 3 objectInit, Cond.arrayClass .char, Cond.fieldLink RX4 9 "DriftGrinders$Orders" "signs" "[C", Cond.methodLink RL 12 yX8_init, Cond.instanceMethod yX8_init, Cond.code yX8_init cX8_init 1 none, Cond.methodLink RX8 1 objectInit, Cond.fieldLink RX8 7 "DriftGrindersModel" "s" "[I", Cond.fieldLink RX8 13 "DriftGrindersModel" "past" "[I", Cond.fieldLink RX8 16 "DriftGrindersModel" "held" "[I", Cond.fieldLink RX8 19 "DriftGrindersModel" "tried" "[I", Cond.fieldLink RX8 22 "DriftGrindersModel" "text" "[I", Cond.fieldLink RX8 25 "DriftGrindersModel" "told" "[I", Cond.methodLink RL 13 yX7_fill, Cond.instanceMethod yX7_fill, Cond.selects RX7 yX7_fill yX7_fill, Cond.code yX7_fill cX7_fill 3 (some .int), Cond.methodLink RX7 33 yX7_spareLikeNow]
def wsL_law_r5 : List Cond := [Cond.instanceMethod yX7_spareLikeNow, Cond.selects RX7 yX7_spareLikeNow yX7_spareLikeNow, Cond.code yX7_spareLikeNow cX7_spareLikeNow 1 (some (.object "DriftGrinders$Grinder")), Cond.methodLink RX7 160 yX1_copyFrom, Cond.instanceMethod yX1_copyFrom, Cond.selects RX1 yX1_copyFrom yX1_copyFrom, Cond.code yX1_copyFrom cX1_copyFrom 2 none, Cond.methodLink RX1 64 arraycopyName, Cond.native arraycopyName, Cond.static arraycopyName, Cond.initialized "java/lang/System", Cond.fieldLink RX1 70 "DriftGrinders$Grinder" "second" "I", Cond.fieldLink RX1 74 "DriftGrinders$Grinder" "filled" "I", Cond.fieldLink RX1 77 "DriftGrinders$Grinder" "ground" "I", Cond.fieldLink RX1 80 "DriftGrinders$Grinder" "brewed" "I", Cond.fieldLink RX1 83 "DriftGrinders$Grinder" "purged" "I", Cond.fieldLink RX1 86 "DriftGrinders$Grinder" "shotsNearTarget" "I", Cond.methodLink RX1 51 yX3_copyFrom, Cond.instanceMethod yX3_copyFrom, Cond.selects RX3 yX3_copyFrom yX3_copyFrom, Cond.code yX3_copyFrom cX3_copyFrom 2 none, Cond.methodLink RX3 20 yX5_copyFrom, Cond.instanceMethod yX5_copyFrom, Cond.selects RX5 yX5_copyFrom yX5_copyFrom]
def wsL_law_r6 : List Cond := [Cond.code yX5_copyFrom cX5_copyFrom 2 none, Cond.fieldLink RX5 16 "DriftGrinders$Row" "length" "I", Cond.methodLink RX5 20 Lib.Math.min.name, Cond.static Lib.Math.min.name, Cond.initialized "java/lang/Math", Cond.code Lib.Math.min.name Lib.Math.min.code 2 (some .int), Cond.fieldLink RX5 26 "DriftGrinders$Row" "total" "I", Cond.methodLink RX5 29 arraycopyName, Cond.methodLink RX1 55 yX0_copyFrom, Cond.instanceMethod yX0_copyFrom, Cond.selects RX0 yX0_copyFrom yX0_copyFrom, Cond.code yX0_copyFrom cX0_copyFrom 2 none, Cond.fieldLink RX0 15 "DriftGrinders$Burr" "warmth" "I", Cond.fieldLink RX0 18 "DriftGrinders$Burr" "ground" "I", Cond.fieldLink RX0 21 "DriftGrinders$Burr" "corrections" "I", Cond.methodLink RX1 58 yX5_copyFrom, Cond.methodLink RX1 61 yX6_copyFrom, Cond.instanceMethod yX6_copyFrom, Cond.selects RX6 yX6_copyFrom yX6_copyFrom, Cond.code yX6_copyFrom cX6_copyFrom 2 none, Cond.methodLink RX6 15 arraycopyName, Cond.fieldLink RX6 21 "DriftGrinders$Shots" "kept" "I", Cond.fieldLink RX6 25 "DriftGrinders$Shots" "made" "I", Cond.methodLink RX7 37 yX1_fillIn]
def wsL_law_r7 : List Cond := [Cond.instanceMethod yX1_fillIn, Cond.selects RX1 yX1_fillIn yX1_fillIn, Cond.code yX1_fillIn cX1_fillIn 3 (some .int), Cond.constant RX1 93 (-1000001), Cond.constant RX1 98 (-1000003), Cond.static yX7_isZeroOrOne, Cond.code yX7_isZeroOrOne cX7_isZeroOrOne 1 (some .boolean), Cond.methodLink RX1 94 yX3_hasRoomFor, Cond.instanceMethod yX3_hasRoomFor, Cond.selects RX3 yX3_hasRoomFor yX3_hasRoomFor, Cond.code yX3_hasRoomFor cX3_hasRoomFor 3 (some .boolean), Cond.methodLink RX3 31 yX3_endsWith, Cond.instanceMethod yX3_endsWith, Cond.selects RX3 yX3_endsWith yX3_endsWith, Cond.code yX3_endsWith cX3_endsWith 2 (some .boolean), Cond.methodLink RX3 35 yX5_markAt, Cond.instanceMethod yX5_markAt, Cond.selects RX5 yX5_markAt yX5_markAt, Cond.code yX5_markAt cX5_markAt 2 (some .int), Cond.methodLink RX1 99 yX3_pourIn, Cond.instanceMethod yX3_pourIn, Cond.selects RX3 yX3_pourIn yX3_pourIn, Cond.code yX3_pourIn cX3_pourIn 3 none, Cond.methodLink RX3 39 yX5_addToLast]
def wsL_law_r8 : List Cond := [Cond.instanceMethod yX5_addToLast, Cond.selects RX5 yX5_addToLast yX5_addToLast, Cond.code yX5_addToLast cX5_addToLast 2 none, Cond.methodLink RX3 42 yX5_append, Cond.instanceMethod yX5_append, Cond.selects RX5 yX5_append yX5_append, Cond.code yX5_append cX5_append 3 none, Cond.methodLink RX1 103 yX3_amount, Cond.instanceMethod yX3_amount, Cond.selects RX3 yX3_amount yX3_amount, Cond.code yX3_amount cX3_amount 1 (some .int), Cond.methodLink RX7 41 yX7_keepIfDone, Cond.instanceMethod yX7_keepIfDone, Cond.selects RX7 yX7_keepIfDone yX7_keepIfDone, Cond.code yX7_keepIfDone cX7_keepIfDone 3 (some .int), Cond.methodLink RX7 163 yX2_add, Cond.instanceMethod yX2_add, Cond.selects RX2 yX2_add yX2_add, Cond.code yX2_add cX2_add 3 (some (.object "DriftGrinders$Grinder")), Cond.fieldLink RX2 27 "DriftGrinders$History" "states" "I", Cond.methodLink RX2 31 Lib.Math.min.name, Cond.methodLink RL 17 yX8_fill, Cond.instanceMethod yX8_fill, Cond.selects RX8 yX8_fill yX8_fill]
def wsL_law_r9 : List Cond := [Cond.code yX8_fill cX8_fill 5 (some .int), Cond.constant RX8 64 (-1000001), Cond.constant RX8 69 (-1000003), Cond.methodLink RX8 60 yX8_isOne, Cond.static yX8_isOne, Cond.code yX8_isOne cX8_isOne 1 (some .boolean), Cond.methodLink RX8 28 yX8_in, Cond.static yX8_in, Cond.code yX8_in cX8_in 3 (some .boolean), Cond.methodLink RX8 65 yX8_hopper, Cond.instanceMethod yX8_hopper, Cond.selects RX8 yX8_hopper yX8_hopper, Cond.code yX8_hopper cX8_hopper 3 (some .int), Cond.methodLink RX8 70 yX8_changes, Cond.instanceMethod yX8_changes, Cond.selects RX8 yX8_changes yX8_changes, Cond.code yX8_changes cX8_changes 2 none, Cond.fieldLink RX8 32 "DriftGrindersModel" "runs" "Z", Cond.fieldLink RX8 36 "DriftGrindersModel" "pasts" "I", Cond.methodLink RL 18 yX7_grind, Cond.instanceMethod yX7_grind, Cond.selects RX7 yX7_grind yX7_grind, Cond.code yX7_grind cX7_grind 3 (some .int), Cond.methodLink RX7 45 yX1_grindBy]
def wsL_law_r10 : List Cond := [Cond.instanceMethod yX1_grindBy, Cond.selects RX1 yX1_grindBy yX1_grindBy, Cond.code yX1_grindBy cX1_grindBy 5 (some .int), Cond.constant RX1 107 (-1000002), Cond.methodLink RX1 111 Lib.Math.max.name, Cond.static Lib.Math.max.name, Cond.code Lib.Math.max.name Lib.Math.max.code 2 (some .int), Cond.methodLink RX1 117 yX1_burrNumbered, Cond.instanceMethod yX1_burrNumbered, Cond.selects RX1 yX1_burrNumbered yX1_burrNumbered, Cond.code yX1_burrNumbered cX1_burrNumbered 2 (some (.object "DriftGrinders$Burr")), Cond.methodLink RX1 121 yX0_gap, Cond.instanceMethod yX0_gap, Cond.selects RX0 yX0_gap yX0_gap, Cond.code yX0_gap cX0_gap 1 (some .int), Cond.methodLink RX0 24 yX0_gapAt, Cond.instanceMethod yX0_gapAt, Cond.selects RX0 yX0_gapAt yX0_gapAt, Cond.code yX0_gapAt cX0_gapAt 2 (some .int), Cond.methodLink RX0 28 Lib.Math.max.name, Cond.methodLink RX1 124 yX3_letOut, Cond.instanceMethod yX3_letOut, Cond.selects RX3 yX3_letOut yX3_letOut, Cond.code yX3_letOut cX3_letOut 5 none]
def wsL_law_r11 : List Cond := [Cond.static yX7_markOf, Cond.code yX7_markOf cX7_markOf 3 (some .int), Cond.methodLink RX3 50 yX5_letOut, Cond.instanceMethod yX5_letOut, Cond.selects RX5 yX5_letOut yX5_letOut, Cond.code yX5_letOut cX5_letOut 8 none, Cond.methodLink RX5 35 yX5_append, Cond.methodLink RX5 39 yX5_dropFirst, Cond.instanceMethod yX5_dropFirst, Cond.selects RX5 yX5_dropFirst yX5_dropFirst, Cond.code yX5_dropFirst cX5_dropFirst 2 none, Cond.methodLink RX1 128 yX0_warmByGrinding, Cond.instanceMethod yX0_warmByGrinding, Cond.selects RX0 yX0_warmByGrinding yX0_warmByGrinding, Cond.code yX0_warmByGrinding cX0_warmByGrinding 2 none, Cond.methodLink RX0 34 Lib.Math.min.name, Cond.methodLink RX1 131 yX5_letOut, Cond.methodLink RX1 134 yX1_passSeconds, Cond.instanceMethod yX1_passSeconds, Cond.selects RX1 yX1_passSeconds yX1_passSeconds, Cond.code yX1_passSeconds cX1_passSeconds 3 none, Cond.methodLink RX1 143 yX0_cool, Cond.instanceMethod yX0_cool, Cond.selects RX0 yX0_cool yX0_cool]
def wsL_law_r12 : List Cond := [Cond.code yX0_cool cX0_cool 3 none, Cond.static yX7_fallOf, Cond.code yX7_fallOf cX7_fallOf 1 (some .int), Cond.methodLink RL 21 yX8_grind, Cond.instanceMethod yX8_grind, Cond.selects RX8 yX8_grind yX8_grind, Cond.code yX8_grind cX8_grind 5 (some .int), Cond.constant RX8 96 (-1000004), Cond.methodLink RX8 87 yX8_couldGrind, Cond.instanceMethod yX8_couldGrind, Cond.selects RX8 yX8_couldGrind yX8_couldGrind, Cond.code yX8_couldGrind cX8_couldGrind 4 (some .int), Cond.constant RX8 79 (-1000002), Cond.methodLink RX8 76 yX8_amounts, Cond.instanceMethod yX8_amounts, Cond.selects RX8 yX8_amounts yX8_amounts, Cond.code yX8_amounts cX8_amounts 5 (some .int), Cond.methodLink RX8 47 yX8_amountOf, Cond.static yX8_amountOf, Cond.code yX8_amountOf cX8_amountOf 1 (some .int), Cond.methodLink RX8 90 yX8_grinds, Cond.instanceMethod yX8_grinds, Cond.selects RX8 yX8_grinds yX8_grinds, Cond.code yX8_grinds cX8_grinds 4 none]
def wsL_law_r13 : List Cond := [Cond.methodLink RX8 80 yX8_comes, Cond.instanceMethod yX8_comes, Cond.selects RX8 yX8_comes yX8_comes, Cond.code yX8_comes cX8_comes 7 none, Cond.methodLink RX8 73 yX8_gap, Cond.instanceMethod yX8_gap, Cond.selects RX8 yX8_gap yX8_gap, Cond.code yX8_gap cX8_gap 2 (some .int), Cond.methodLink RX8 50 yX8_ofBurr, Cond.instanceMethod yX8_ofBurr, Cond.selects RX8 yX8_ofBurr yX8_ofBurr, Cond.code yX8_ofBurr cX8_ofBurr 3 (some .int), Cond.methodLink RX8 54 yX8_gapBy, Cond.static yX8_gapBy, Cond.code yX8_gapBy cX8_gapBy 3 (some .int), Cond.methodLink RX8 84 yX8_overflows, Cond.instanceMethod yX8_overflows, Cond.selects RX8 yX8_overflows yX8_overflows, Cond.code yX8_overflows cX8_overflows 5 none, Cond.methodLink RX8 93 yX8_passes, Cond.instanceMethod yX8_passes, Cond.selects RX8 yX8_passes yX8_passes, Cond.code yX8_passes cX8_passes 6 (some .int), Cond.methodLink RX8 57 yX8_fall]
def wsL_law_r14 : List Cond := [Cond.static yX8_fall, Cond.code yX8_fall cX8_fall 1 (some .int), Cond.methodLink RL 22 yX7_dial, Cond.instanceMethod yX7_dial, Cond.selects RX7 yX7_dial yX7_dial, Cond.code yX7_dial cX7_dial 3 (some .int), Cond.methodLink RX7 48 yX1_turnDial, Cond.instanceMethod yX1_turnDial, Cond.selects RX1 yX1_turnDial yX1_turnDial, Cond.code yX1_turnDial cX1_turnDial 5 (some .int), Cond.methodLink RL 25 yX8_dial, Cond.instanceMethod yX8_dial, Cond.selects RX8 yX8_dial yX8_dial, Cond.code yX8_dial cX8_dial 4 (some .int), Cond.methodLink RL 26 yX7_rest, Cond.instanceMethod yX7_rest, Cond.selects RX7 yX7_rest yX7_rest, Cond.code yX7_rest cX7_rest 2 (some .int), Cond.methodLink RX7 51 yX1_letPass, Cond.instanceMethod yX1_letPass, Cond.selects RX1 yX1_letPass yX1_letPass, Cond.code yX1_letPass cX1_letPass 3 (some .int), Cond.methodLink RL 30 yX8_rest, Cond.instanceMethod yX8_rest]
def wsL_law_r15 : List Cond := [Cond.selects RX8 yX8_rest yX8_rest, Cond.code yX8_rest cX8_rest 2 (some .int), Cond.methodLink RL 31 yX7_shot, Cond.instanceMethod yX7_shot, Cond.selects RX7 yX7_shot yX7_shot, Cond.code yX7_shot cX7_shot 1 (some .int), Cond.methodLink RX7 54 yX1_makeShot, Cond.instanceMethod yX1_makeShot, Cond.selects RX1 yX1_makeShot yX1_makeShot, Cond.code yX1_makeShot cX1_makeShot 4 (some .int), Cond.methodLink RX1 146 yX1_timeOfBasket, Cond.instanceMethod yX1_timeOfBasket, Cond.selects RX1 yX1_timeOfBasket yX1_timeOfBasket, Cond.code yX1_timeOfBasket cX1_timeOfBasket 3 (some .int), Cond.methodLink RX1 173 yX5_amountAt, Cond.instanceMethod yX5_amountAt, Cond.selects RX5 yX5_amountAt yX5_amountAt, Cond.code yX5_amountAt cX5_amountAt 2 (some .int), Cond.methodLink RX1 176 yX5_markAt, Cond.methodLink RX1 179 yX1_flowOfMark, Cond.instanceMethod yX1_flowOfMark, Cond.selects RX1 yX1_flowOfMark yX1_flowOfMark, Cond.code yX1_flowOfMark cX1_flowOfMark 2 (some .int), Cond.static yX7_kindOfMark]
def wsL_law_r16 : List Cond := [Cond.code yX7_kindOfMark cX7_kindOfMark 1 (some .int), Cond.methodLink RX1 185 yX1_hardnessOf, Cond.instanceMethod yX1_hardnessOf, Cond.selects RX1 yX1_hardnessOf yX1_hardnessOf, Cond.code yX1_hardnessOf cX1_hardnessOf 2 (some .int), Cond.static yX7_gapOfMark, Cond.code yX7_gapOfMark cX7_gapOfMark 1 (some .int), Cond.static yX7_flowOf, Cond.code yX7_flowOf cX7_flowOf 2 (some .int), Cond.methodLink RX1 149 yX5_isMostly, Cond.instanceMethod yX5_isMostly, Cond.selects RX5 yX5_isMostly yX5_isMostly, Cond.code yX5_isMostly cX5_isMostly 4 (some .boolean), Cond.methodLink RX1 155 yX6_add, Cond.instanceMethod yX6_add, Cond.selects RX6 yX6_add yX6_add, Cond.code yX6_add cX6_add 7 none, Cond.methodLink RX6 28 Lib.Math.min.name, Cond.methodLink RX1 159 yX5_clear, Cond.instanceMethod yX5_clear, Cond.selects RX5 yX5_clear yX5_clear, Cond.code yX5_clear cX5_clear 1 none, Cond.methodLink RX1 162 yX1_judge, Cond.instanceMethod yX1_judge]
def wsL_law_r17 : List Cond := [Cond.selects RX1 yX1_judge yX1_judge, Cond.code yX1_judge cX1_judge 3 none, Cond.methodLink RX1 166 Lib.Math.abs.name, Cond.static Lib.Math.abs.name, Cond.code Lib.Math.abs.name Lib.Math.abs.code 1 (some .int), Cond.methodLink RX1 170 yX0_correctBy, Cond.instanceMethod yX0_correctBy, Cond.selects RX0 yX0_correctBy yX0_correctBy, Cond.code yX0_correctBy cX0_correctBy 4 none, Cond.methodLink RL 35 yX8_shot, Cond.instanceMethod yX8_shot, Cond.selects RX8 yX8_shot yX8_shot, Cond.code yX8_shot cX8_shot 7 (some .int), Cond.methodLink RX8 100 yX8_timeNow, Cond.instanceMethod yX8_timeNow, Cond.selects RX8 yX8_timeNow yX8_timeNow, Cond.code yX8_timeNow cX8_timeNow 3 (some .int), Cond.methodLink RX8 97 yX8_flowOf, Cond.instanceMethod yX8_flowOf, Cond.selects RX8 yX8_flowOf yX8_flowOf, Cond.code yX8_flowOf cX8_flowOf 2 (some .int), Cond.methodLink RX8 40 yX8_kindOf, Cond.static yX8_kindOf, Cond.code yX8_kindOf cX8_kindOf 1 (some .int)]
def wsL_law_r18 : List Cond := [Cond.methodLink RX8 44 yX8_gapOf, Cond.static yX8_gapOf, Cond.code yX8_gapOf cX8_gapOf 1 (some .int), Cond.methodLink RX8 103 yX8_burrIn, Cond.static yX8_burrIn, Cond.code yX8_burrIn cX8_burrIn 1 (some .int), Cond.methodLink RX8 106 yX8_away, Cond.instanceMethod yX8_away, Cond.selects RX8 yX8_away yX8_away, Cond.code yX8_away cX8_away 3 (some .int), Cond.methodLink RX8 109 yX8_corrects, Cond.instanceMethod yX8_corrects, Cond.selects RX8 yX8_corrects yX8_corrects, Cond.code yX8_corrects cX8_corrects 4 none, Cond.methodLink RL 36 yX7_purge, Cond.instanceMethod yX7_purge, Cond.selects RX7 yX7_purge yX7_purge, Cond.code yX7_purge cX7_purge 1 (some .int), Cond.methodLink RX7 58 yX1_emptyChute, Cond.instanceMethod yX1_emptyChute, Cond.selects RX1 yX1_emptyChute yX1_emptyChute, Cond.code yX1_emptyChute cX1_emptyChute 2 (some .int), Cond.methodLink RL 39 yX8_purge, Cond.instanceMethod yX8_purge]
def wsL_law_r19 : List Cond := [Cond.selects RX8 yX8_purge yX8_purge, Cond.code yX8_purge cX8_purge 2 (some .int), Cond.methodLink RL 40 yX7_correct, Cond.instanceMethod yX7_correct, Cond.selects RX7 yX7_correct yX7_correct, Cond.code yX7_correct cX7_correct 2 (some .int), Cond.methodLink RX7 61 yX1_correctByLatest, Cond.instanceMethod yX1_correctByLatest, Cond.selects RX1 yX1_correctByLatest yX1_correctByLatest, Cond.code yX1_correctByLatest cX1_correctByLatest 3 (some .int), Cond.methodLink RX1 197 yX6_latestTime, Cond.instanceMethod yX6_latestTime, Cond.selects RX6 yX6_latestTime yX6_latestTime, Cond.code yX6_latestTime cX6_latestTime 1 (some .int), Cond.methodLink RL 43 yX8_correct, Cond.instanceMethod yX8_correct, Cond.selects RX8 yX8_correct yX8_correct, Cond.code yX8_correct cX8_correct 2 (some .int), Cond.methodLink RL 44 yX7_set, Cond.instanceMethod yX7_set, Cond.selects RX7 yX7_set yX7_set, Cond.code yX7_set cX7_set 3 (some .int), Cond.methodLink RX7 64 yX1_changeSetting, Cond.instanceMethod yX1_changeSetting]
def wsL_law_r20 : List Cond := [Cond.selects RX1 yX1_changeSetting yX1_changeSetting, Cond.code yX1_changeSetting cX1_changeSetting 4 (some .int), Cond.methodLink RL 47 yX8_set, Cond.instanceMethod yX8_set, Cond.selects RX8 yX8_set yX8_set, Cond.code yX8_set cX8_set 4 (some .int), Cond.methodLink RX8 112 yX8_leastOf, Cond.static yX8_leastOf, Cond.code yX8_leastOf cX8_leastOf 1 (some .int), Cond.methodLink RX8 115 yX8_mostOf, Cond.static yX8_mostOf, Cond.code yX8_mostOf cX8_mostOf 1 (some .int), Cond.methodLink RL 48 yX7_burrOf, Cond.instanceMethod yX7_burrOf, Cond.selects RX7 yX7_burrOf yX7_burrOf, Cond.code yX7_burrOf cX7_burrOf 3 (some .int), Cond.constant RX7 71 (-1000001), Cond.methodLink RX7 67 yX7_isZeroOrOne, Cond.methodLink RX7 72 yX1_burrNumbered, Cond.methodLink RX7 76 yX0_tell, Cond.instanceMethod yX0_tell, Cond.selects RX0 yX0_tell yX0_tell, Cond.code yX0_tell cX0_tell 2 (some .int), Cond.methodLink RX0 40 yX0_gap]
def wsL_law_r21 : List Cond := [Cond.methodLink RL 51 yX8_burrOf, Cond.instanceMethod yX8_burrOf, Cond.selects RX8 yX8_burrOf yX8_burrOf, Cond.code yX8_burrOf cX8_burrOf 3 (some .int), Cond.methodLink RL 52 yX7_lotOf, Cond.instanceMethod yX7_lotOf, Cond.selects RX7 yX7_lotOf yX7_lotOf, Cond.code yX7_lotOf cX7_lotOf 3 (some .int), Cond.methodLink RX7 85 yX3_tell, Cond.instanceMethod yX3_tell, Cond.selects RX3 yX3_tell yX3_tell, Cond.code yX3_tell cX3_tell 3 (some .int), Cond.constant RX3 54 (-1000004), Cond.methodLink RX3 55 yX5_amountAt, Cond.methodLink RL 55 yX8_lotOf, Cond.instanceMethod yX8_lotOf, Cond.selects RX8 yX8_lotOf yX8_lotOf, Cond.code yX8_lotOf cX8_lotOf 3 (some .int), Cond.methodLink RL 56 yX7_portionOf, Cond.instanceMethod yX7_portionOf, Cond.selects RX7 yX7_portionOf yX7_portionOf, Cond.code yX7_portionOf cX7_portionOf 4 (some .int), Cond.methodLink RX7 96 yX1_tellPortion, Cond.instanceMethod yX1_tellPortion]
def wsL_law_r22 : List Cond := [Cond.selects RX1 yX1_tellPortion yX1_tellPortion, Cond.code yX1_tellPortion cX1_tellPortion 5 (some .int), Cond.constant RX1 206 (-1000004), Cond.static yX7_burrOfMark, Cond.code yX7_burrOfMark cX7_burrOfMark 1 (some .int), Cond.methodLink RL 60 yX8_portionOf, Cond.instanceMethod yX8_portionOf, Cond.selects RX8 yX8_portionOf yX8_portionOf, Cond.code yX8_portionOf cX8_portionOf 5 (some .int), Cond.methodLink RL 61 yX7_shotOf, Cond.instanceMethod yX7_shotOf, Cond.selects RX7 yX7_shotOf yX7_shotOf, Cond.code yX7_shotOf cX7_shotOf 3 (some .int), Cond.methodLink RX7 108 yX6_tell, Cond.instanceMethod yX6_tell, Cond.selects RX6 yX6_tell yX6_tell, Cond.code yX6_tell cX6_tell 4 (some .int), Cond.constant RX6 34 (-1000004), Cond.methodLink RX6 35 yX6_awayFrom, Cond.instanceMethod yX6_awayFrom, Cond.selects RX6 yX6_awayFrom yX6_awayFrom, Cond.code yX6_awayFrom cX6_awayFrom 3 (some .int), Cond.methodLink RX6 38 Lib.Math.abs.name, Cond.methodLink RL 64 yX8_shotOf]
def wsL_law_r23 : List Cond := [Cond.instanceMethod yX8_shotOf, Cond.selects RX8 yX8_shotOf yX8_shotOf, Cond.code yX8_shotOf cX8_shotOf 4 (some .int), Cond.methodLink RL 65 yX7_best, Cond.instanceMethod yX7_best, Cond.selects RX7 yX7_best yX7_best, Cond.code yX7_best cX7_best 2 (some .int), Cond.methodLink RX7 113 yX6_numberAtPlace, Cond.instanceMethod yX6_numberAtPlace, Cond.selects RX6 yX6_numberAtPlace yX6_numberAtPlace, Cond.code yX6_numberAtPlace cX6_numberAtPlace 4 (some .int), Cond.methodLink RX6 42 yX6_placeOf, Cond.instanceMethod yX6_placeOf, Cond.selects RX6 yX6_placeOf yX6_placeOf, Cond.code yX6_placeOf cX6_placeOf 7 (some .int), Cond.methodLink RL 68 yX8_best, Cond.instanceMethod yX8_best, Cond.selects RX8 yX8_best yX8_best, Cond.code yX8_best cX8_best 8 (some .int), Cond.methodLink RL 69 yX7_wouldTake, Cond.instanceMethod yX7_wouldTake, Cond.selects RX7 yX7_wouldTake yX7_wouldTake, Cond.code yX7_wouldTake cX7_wouldTake 5 (some .int), Cond.methodLink RX7 116 yX1_timeOfBasket]
def wsL_law_r24 : List Cond := [Cond.methodLink RL 72 yX8_wouldTake, Cond.instanceMethod yX8_wouldTake, Cond.selects RX8 yX8_wouldTake yX8_wouldTake, Cond.code yX8_wouldTake cX8_wouldTake 5 (some .int), Cond.methodLink RX8 118 yX8_copies, Cond.static yX8_copies, Cond.code yX8_copies cX8_copies 3 none, Cond.methodLink RL 73 yX7_dialFor, Cond.instanceMethod yX7_dialFor, Cond.selects RX7 yX7_dialFor yX7_dialFor, Cond.code yX7_dialFor cX7_dialFor 3 (some .int), Cond.methodLink RX7 119 yX1_nearestDial, Cond.instanceMethod yX1_nearestDial, Cond.selects RX1 yX1_nearestDial yX1_nearestDial, Cond.code yX1_nearestDial cX1_nearestDial 5 (some .int), Cond.methodLink RX1 210 yX1_awayAtDial, Cond.instanceMethod yX1_awayAtDial, Cond.selects RX1 yX1_awayAtDial yX1_awayAtDial, Cond.code yX1_awayAtDial cX1_awayAtDial 4 (some .int), Cond.methodLink RX1 214 yX0_gapAt, Cond.methodLink RL 76 yX8_dialFor, Cond.instanceMethod yX8_dialFor, Cond.selects RX8 yX8_dialFor yX8_dialFor, Cond.code yX8_dialFor cX8_dialFor 7 (some .int)]
def wsL_law_r25 : List Cond := [Cond.methodLink RL 77 yX7_stale, Cond.instanceMethod yX7_stale, Cond.selects RX7 yX7_stale yX7_stale, Cond.code yX7_stale cX7_stale 2 (some .int), Cond.methodLink RX7 123 yX1_staleFor, Cond.instanceMethod yX1_staleFor, Cond.selects RX1 yX1_staleFor yX1_staleFor, Cond.code yX1_staleFor cX1_staleFor 3 (some .int), Cond.methodLink RX1 217 yX3_isEmpty, Cond.instanceMethod yX3_isEmpty, Cond.selects RX3 yX3_isEmpty yX3_isEmpty, Cond.code yX3_isEmpty cX3_isEmpty 1 (some .boolean), Cond.methodLink RX1 221 yX3_firstKind, Cond.instanceMethod yX3_firstKind, Cond.selects RX3 yX3_firstKind yX3_firstKind, Cond.code yX3_firstKind cX3_firstKind 1 (some .int), Cond.methodLink RX1 228 yX5_amountUpToLastUnlike, Cond.instanceMethod yX5_amountUpToLastUnlike, Cond.selects RX5 yX5_amountUpToLastUnlike yX5_amountUpToLastUnlike, Cond.code yX5_amountUpToLastUnlike cX5_amountUpToLastUnlike 5 (some .int), Cond.methodLink RL 80 yX8_stale, Cond.instanceMethod yX8_stale, Cond.selects RX8 yX8_stale yX8_stale, Cond.code yX8_stale cX8_stale 6 (some .int)]
def wsL_law_r26 : List Cond := [Cond.methodLink RL 81 yX7_coolAfter, Cond.instanceMethod yX7_coolAfter, Cond.selects RX7 yX7_coolAfter yX7_coolAfter, Cond.code yX7_coolAfter cX7_coolAfter 3 (some .int), Cond.methodLink RX7 126 yX1_secondsToCool, Cond.instanceMethod yX1_secondsToCool, Cond.selects RX1 yX1_secondsToCool yX1_secondsToCool, Cond.code yX1_secondsToCool cX1_secondsToCool 4 (some .int), Cond.methodLink RX1 231 yX0_coolingsTo, Cond.instanceMethod yX0_coolingsTo, Cond.selects RX0 yX0_coolingsTo yX0_coolingsTo, Cond.code yX0_coolingsTo cX0_coolingsTo 4 (some .int), Cond.methodLink RL 84 yX8_coolAfter, Cond.instanceMethod yX8_coolAfter, Cond.selects RX8 yX8_coolAfter yX8_coolAfter, Cond.code yX8_coolAfter cX8_coolAfter 5 (some .int), Cond.methodLink RL 85 yX7_count, Cond.instanceMethod yX7_count, Cond.selects RX7 yX7_count yX7_count, Cond.code yX7_count cX7_count 2 (some .int), Cond.methodLink RX7 136 yX1_tell, Cond.instanceMethod yX1_tell, Cond.selects RX1 yX1_tell yX1_tell, Cond.code yX1_tell cX1_tell 2 (some .int)]
def wsL_law_r27 : List Cond := [Cond.methodLink RX1 237 yX1_tellSetting, Cond.instanceMethod yX1_tellSetting, Cond.selects RX1 yX1_tellSetting yX1_tellSetting, Cond.code yX1_tellSetting cX1_tellSetting 2 (some .int), Cond.methodLink RL 88 yX8_count, Cond.instanceMethod yX8_count, Cond.selects RX8 yX8_count yX8_count, Cond.code yX8_count cX8_count 2 (some .int), Cond.fieldLink RX8 122 "DriftGrindersModel" "typed" "I", Cond.methodLink RL 89 yX7_undo, Cond.instanceMethod yX7_undo, Cond.selects RX7 yX7_undo yX7_undo, Cond.code yX7_undo cX7_undo 1 (some .int), Cond.constant RX7 137 (-1000002), Cond.methodLink RX7 138 yX2_takeLatest, Cond.instanceMethod yX2_takeLatest, Cond.selects RX2 yX2_takeLatest yX2_takeLatest, Cond.code yX2_takeLatest cX2_takeLatest 3 (some (.object "DriftGrinders$Grinder")), Cond.methodLink RX2 37 Lib.Math.max.name, Cond.methodLink RL 92 yX8_undo, Cond.instanceMethod yX8_undo, Cond.selects RX8 yX8_undo yX8_undo, Cond.code yX8_undo cX8_undo 2 (some .int), Cond.methodLink RL 93 yX7_type]
def wsL_law_r28 : List Cond := [Cond.instanceMethod yX7_type, Cond.selects RX7 yX7_type yX7_type, Cond.code yX7_type cX7_type 2 (some .int), Cond.methodLink RX7 142 yX4_append, Cond.instanceMethod yX4_append, Cond.selects RX4 yX4_append yX4_append, Cond.code yX4_append cX4_append 2 (some .int), Cond.fieldLink RX4 15 "DriftGrinders$Orders" "length" "I", Cond.constant RX4 19 (-1000003), Cond.methodLink RL 96 yX8_type, Cond.instanceMethod yX8_type, Cond.selects RX8 yX8_type yX8_type, Cond.code yX8_type cX8_type 2 (some .int), Cond.methodLink RL 97 yX7_clearText, Cond.instanceMethod yX7_clearText, Cond.selects RX7 yX7_clearText yX7_clearText, Cond.code yX7_clearText cX7_clearText 2 (some .int), Cond.methodLink RL 100 yX8_clearText, Cond.instanceMethod yX8_clearText, Cond.selects RX8 yX8_clearText yX8_clearText, Cond.code yX8_clearText cX8_clearText 2 (some .int), Cond.methodLink RL 101 yX7_fault, Cond.instanceMethod yX7_fault, Cond.selects RX7 yX7_fault yX7_fault]
def wsL_law_r29 : List Cond := [Cond.code yX7_fault cX7_fault 2 (some .int), Cond.methodLink RX7 146 yX4_doAllOn, Cond.instanceMethod yX4_doAllOn, Cond.selects RX4 yX4_doAllOn yX4_doAllOn, Cond.code yX4_doAllOn cX4_doAllOn 4 none, Cond.fieldLink RX4 20 "DriftGrinders$Orders" "faultReason" "I", Cond.fieldLink RX4 34 "DriftGrinders$Orders" "at" "I", Cond.fieldLink RX4 37 "DriftGrinders$Orders" "ordersDone" "I", Cond.methodLink RX4 40 yX4_readOrder, Cond.instanceMethod yX4_readOrder, Cond.selects RX4 yX4_readOrder yX4_readOrder, Cond.code yX4_readOrder cX4_readOrder 1 (some .boolean), Cond.fieldLink RX4 55 "DriftGrinders$Orders" "letter" "C", Cond.methodLink RX4 51 yX4_signHere, Cond.instanceMethod yX4_signHere, Cond.selects RX4 yX4_signHere yX4_signHere, Cond.code yX4_signHere cX4_signHere 1 (some .char), Cond.methodLink RX4 59 yX4_readFirstNumber, Cond.instanceMethod yX4_readFirstNumber, Cond.selects RX4 yX4_readFirstNumber yX4_readFirstNumber, Cond.code yX4_readFirstNumber cX4_readFirstNumber 1 (some .boolean), Cond.fieldLink RX4 73 "DriftGrinders$Orders" "firstNumber" "I", Cond.methodLink RX4 69 yX4_readNumber, Cond.instanceMethod yX4_readNumber]
def wsL_law_r30 : List Cond := [Cond.selects RX4 yX4_readNumber yX4_readNumber, Cond.code yX4_readNumber cX4_readNumber 3 (some .int), Cond.methodLink RX4 82 Lib.Math.max.name, Cond.methodLink RX4 79 yX4_isDigit, Cond.static yX4_isDigit, Cond.code yX4_isDigit cX4_isDigit 1 (some .boolean), Cond.methodLink RX4 62 yX4_passSign, Cond.instanceMethod yX4_passSign, Cond.selects RX4 yX4_passSign yX4_passSign, Cond.code yX4_passSign cX4_passSign 2 (some .boolean), Cond.methodLink RX4 66 yX4_readSecondNumber, Cond.instanceMethod yX4_readSecondNumber, Cond.selects RX4 yX4_readSecondNumber yX4_readSecondNumber, Cond.code yX4_readSecondNumber cX4_readSecondNumber 1 (some .boolean), Cond.fieldLink RX4 76 "DriftGrinders$Orders" "secondNumber" "I", Cond.methodLink RX4 43 yX4_blame, Cond.instanceMethod yX4_blame, Cond.selects RX4 yX4_blame yX4_blame, Cond.code yX4_blame cX4_blame 4 none, Cond.fieldLink RX4 28 "DriftGrinders$Orders" "faultPosition" "I", Cond.fieldLink RX4 31 "DriftGrinders$Orders" "faultCause" "I", Cond.methodLink RX4 47 yX4_doOrderOn, Cond.instanceMethod yX4_doOrderOn, Cond.selects RX4 yX4_doOrderOn yX4_doOrderOn]
def wsL_law_r31 : List Cond := [Cond.code yX4_doOrderOn cX4_doOrderOn 2 (some .int), Cond.methodLink RX4 88 yX1_fillIn, Cond.methodLink RX4 93 yX1_grindBy, Cond.methodLink RX4 96 yX1_turnDial, Cond.methodLink RX4 99 yX1_letPass, Cond.methodLink RX4 103 yX1_makeShot, Cond.methodLink RX4 106 yX1_emptyChute, Cond.methodLink RX7 150 yX4_tellFault, Cond.instanceMethod yX4_tellFault, Cond.selects RX4 yX4_tellFault yX4_tellFault, Cond.code yX4_tellFault cX4_tellFault 2 (some .int), Cond.constant RX4 27 (-1000004), Cond.methodLink RX4 23 yX4_hasFault, Cond.instanceMethod yX4_hasFault, Cond.selects RX4 yX4_hasFault yX4_hasFault, Cond.code yX4_hasFault cX4_hasFault 1 (some .boolean), Cond.methodLink RL 104 yX8_fault, Cond.instanceMethod yX8_fault, Cond.selects RX8 yX8_fault yX8_fault, Cond.code yX8_fault cX8_fault 3 (some .int), Cond.fieldLink RX8 159 "DriftGrindersModel" "from" "I", Cond.fieldLink RX8 172 "DriftGrindersModel" "reason" "I", Cond.fieldLink RX8 175 "DriftGrindersModel" "cause" "I", Cond.methodLink RX8 178 yX8_plays]
def wsL_law_r32 : List Cond := [Cond.instanceMethod yX8_plays, Cond.selects RX8 yX8_plays yX8_plays, Cond.code yX8_plays cX8_plays 4 (some .boolean), Cond.fieldLink RX8 125 "DriftGrindersModel" "spot" "I", Cond.fieldLink RX8 162 "DriftGrindersModel" "orders" "I", Cond.methodLink RX8 165 yX8_reads, Cond.instanceMethod yX8_reads, Cond.selects RX8 yX8_reads yX8_reads, Cond.code yX8_reads cX8_reads 3 (some .boolean), Cond.fieldLink RX8 132 "DriftGrindersModel" "order" "I", Cond.methodLink RX8 128 yX8_isAt, Cond.instanceMethod yX8_isAt, Cond.selects RX8 yX8_isAt yX8_isAt, Cond.code yX8_isAt cX8_isAt 3 (some .boolean), Cond.methodLink RX8 135 yX8_sign, Cond.instanceMethod yX8_sign, Cond.selects RX8 yX8_sign yX8_sign, Cond.code yX8_sign cX8_sign 3 (some .boolean), Cond.methodLink RX8 138 yX8_number, Cond.instanceMethod yX8_number, Cond.selects RX8 yX8_number yX8_number, Cond.code yX8_number cX8_number 3 (some .boolean), Cond.methodLink RX8 169 yX8_calls, Cond.instanceMethod yX8_calls]
def wsL_law_r33 : List Cond := [Cond.selects RX8 yX8_calls yX8_calls, Cond.code yX8_calls cX8_calls 1 (some .int), Cond.methodLink RX8 141 yX8_fill, Cond.methodLink RX8 144 yX8_grind, Cond.methodLink RX8 147 yX8_dial, Cond.methodLink RX8 150 yX8_rest, Cond.methodLink RX8 153 yX8_shot, Cond.methodLink RX8 156 yX8_purge, Cond.methodLink RL 105 yX7_play, Cond.instanceMethod yX7_play, Cond.selects RX7 yX7_play yX7_play, Cond.code yX7_play cX7_play 1 (some .int), Cond.methodLink RX7 153 yX4_hasFault, Cond.methodLink RL 108 yX8_play, Cond.instanceMethod yX8_play, Cond.selects RX8 yX8_play yX8_play, Cond.code yX8_play cX8_play 2 (some .int)]
def wsL_law : List Cond := (wsL_law_r1 ++ (wsL_law_r2 ++ (wsL_law_r3 ++ (wsL_law_r4 ++ (wsL_law_r5 ++ (wsL_law_r6 ++ (wsL_law_r7 ++ (wsL_law_r8 ++ (wsL_law_r9 ++ (wsL_law_r10 ++ (wsL_law_r11 ++ (wsL_law_r12 ++ (wsL_law_r13 ++ (wsL_law_r14 ++ (wsL_law_r15 ++ (wsL_law_r16 ++ (wsL_law_r17 ++ (wsL_law_r18 ++ (wsL_law_r19 ++ (wsL_law_r20 ++ (wsL_law_r21 ++ (wsL_law_r22 ++ (wsL_law_r23 ++ (wsL_law_r24 ++ (wsL_law_r25 ++ (wsL_law_r26 ++ (wsL_law_r27 ++ (wsL_law_r28 ++ (wsL_law_r29 ++ (wsL_law_r30 ++ (wsL_law_r31 ++ (wsL_law_r32 ++ wsL_law_r33)))))))))))))))))))))))))))))))) ++ wsX70 ++ wsX80 ++ wsX20 ++ wsX40 ++ wsX10 ++ wsX30 ++ wsX00 ++ wsX50 ++ wsX60 ++ ([] : List Cond)
abbrev vwCl : List vw_C := [(RX0, TX0, 4), (RX1, TX1, 13), (RX2, TX2, 5), (RX3, TX3, 1), (RX4, TX4, 10), (RX5, TX5, 4), (RX6, TX6, 3), (RX7, TX7, 4), (RX8, TX8, 15)]
end
section
set_option maxRecDepth 20000 in
theorem lc_1 : ∀ w ∈ wsL_law_r1, w ∈ lw_tbl := fun w h => (goodIn_r wsL_law_r1 [52, 53, 41, 721, 722, 49, 54, 55, 56, 57, 58, 59, 60, 61, 42, 251, 209, 210, 48, 252, 249, 67, 43, 253] (by decide +kernel) (by decide +kernel) w h).1
set_option maxRecDepth 20000 in
theorem lc_2 : ∀ w ∈ wsL_law_r2, w ∈ lw_tbl := fun w h => (goodIn_r wsL_law_r2 [254, 63, 64, 65, 66, 192, 193, 194, 195, 69, 70, 71, 72, 73, 44, 147, 106, 107, 46, 149, 150, 127, 79, 45] (by decide +kernel) (by decide +kernel) w h).1
set_option maxRecDepth 20000 in
theorem lc_3 : ∀ w ∈ wsL_law_r3, w ∈ lw_tbl := fun w h => (goodIn_r wsL_law_r3 [151, 153, 129, 130, 47, 155, 101, 157, 75, 76, 77, 78, 102, 80, 81, 82, 83, 84, 85, 109, 110, 111, 112, 128] (by decide +kernel) (by decide +kernel) w h).1
set_option maxRecDepth 20000 in
theorem lc_4 : ∀ w ∈ wsL_law_r4, w ∈ lw_tbl := fun w h => (goodIn_r wsL_law_r4 [132, 133, 134, 135, 212, 213, 214, 248, 215, 723, 724, 725, 726, 727, 728, 729, 730, 733, 741, 264, 265, 266, 267, 268] (by decide +kernel) (by decide +kernel) w h).1
set_option maxRecDepth 20000 in
theorem lc_5 : ∀ w ∈ wsL_law_r5, w ∈ lw_tbl := fun w h => (goodIn_r wsL_law_r5 [270, 0, 271, 272, 273, 274, 275, 300, 289, 288, 51, 159, 160, 161, 162, 163, 164, 276, 277, 278, 279, 280, 281, 282] (by decide +kernel) (by decide +kernel) w h).1
set_option maxRecDepth 20000 in
theorem lc_6 : ∀ w ∈ wsL_law_r6, w ∈ lw_tbl := fun w h => (goodIn_r wsL_law_r6 [283, 86, 284, 285, 50, 286, 89, 287, 290, 291, 292, 293, 114, 116, 117, 294, 295, 296, 297, 298, 299, 136, 138, 301] (by decide +kernel) (by decide +kernel) w h).1
set_option maxRecDepth 20000 in
theorem lc_7 : ∀ w ∈ wsL_law_r7, w ∈ lw_tbl := fun w h => (goodIn_r wsL_law_r7 [302, 303, 304, 308, 321, 306, 307, 309, 310, 311, 312, 313, 315, 1, 316, 317, 318, 319, 320, 322, 323, 324, 325, 326] (by decide +kernel) (by decide +kernel) w h).1
set_option maxRecDepth 20000 in
theorem lc_8 : ∀ w ∈ wsL_law_r8, w ∈ lw_tbl := fun w h => (goodIn_r wsL_law_r8 [327, 328, 329, 330, 331, 332, 333, 334, 335, 336, 337, 338, 340, 2, 341, 342, 343, 344, 345, 196, 346, 773, 774, 775] (by decide +kernel) (by decide +kernel) w h).1
set_option maxRecDepth 20000 in
theorem lc_9 : ∀ w ∈ wsL_law_r9, w ∈ lw_tbl := fun w h => (goodIn_r wsL_law_r9 [776, 783, 788, 777, 778, 779, 780, 781, 782, 784, 786, 20, 787, 789, 791, 21, 792, 732, 731, 347, 348, 349, 350, 351] (by decide +kernel) (by decide +kernel) w h).1
set_option maxRecDepth 20000 in
theorem lc_10 : ∀ w ∈ wsL_law_r10, w ∈ lw_tbl := fun w h => (goodIn_r wsL_law_r10 [352, 353, 354, 355, 356, 357, 358, 359, 360, 361, 362, 363, 364, 365, 366, 367, 368, 369, 370, 371, 372, 373, 374, 375] (by decide +kernel) (by decide +kernel) w h).1
set_option maxRecDepth 20000 in
theorem lc_11 : ∀ w ∈ wsL_law_r11, w ∈ lw_tbl := fun w h => (goodIn_r wsL_law_r11 [377, 378, 379, 380, 381, 382, 383, 384, 386, 3, 387, 388, 389, 390, 391, 392, 393, 394, 396, 4, 397, 398, 399, 400] (by decide +kernel) (by decide +kernel) w h).1
set_option maxRecDepth 20000 in
theorem lc_12 : ∀ w ∈ wsL_law_r12, w ∈ lw_tbl := fun w h => (goodIn_r wsL_law_r12 [401, 403, 404, 793, 794, 795, 796, 839, 797, 799, 22, 800, 801, 802, 804, 23, 805, 806, 807, 808, 809, 811, 24, 812] (by decide +kernel) (by decide +kernel) w h).1
set_option maxRecDepth 20000 in
theorem lc_13 : ∀ w ∈ wsL_law_r13, w ∈ lw_tbl := fun w h => (goodIn_r wsL_law_r13 [813, 815, 25, 816, 817, 819, 26, 820, 821, 823, 27, 824, 825, 826, 827, 828, 830, 28, 831, 832, 834, 29, 835, 836] (by decide +kernel) (by decide +kernel) w h).1
set_option maxRecDepth 20000 in
theorem lc_14 : ∀ w ∈ wsL_law_r14, w ∈ lw_tbl := fun w h => (goodIn_r wsL_law_r14 [837, 838, 405, 406, 407, 408, 409, 410, 411, 412, 840, 841, 842, 843, 413, 414, 415, 416, 417, 418, 419, 420, 844, 845] (by decide +kernel) (by decide +kernel) w h).1
set_option maxRecDepth 20000 in
theorem lc_15 : ∀ w ∈ wsL_law_r15, w ∈ lw_tbl := fun w h => (goodIn_r wsL_law_r15 [846, 847, 421, 422, 423, 424, 425, 426, 427, 428, 429, 430, 431, 432, 433, 434, 435, 436, 437, 438, 440, 5, 441, 443] (by decide +kernel) (by decide +kernel) w h).1
set_option maxRecDepth 20000 in
theorem lc_16 : ∀ w ∈ wsL_law_r16, w ∈ lw_tbl := fun w h => (goodIn_r wsL_law_r16 [444, 445, 447, 6, 448, 450, 451, 453, 454, 455, 456, 457, 458, 459, 460, 461, 462, 463, 464, 465, 466, 467, 468, 470] (by decide +kernel) (by decide +kernel) w h).1
set_option maxRecDepth 20000 in
theorem lc_17 : ∀ w ∈ wsL_law_r17, w ∈ lw_tbl := fun w h => (goodIn_r wsL_law_r17 [7, 471, 472, 473, 474, 475, 476, 477, 478, 848, 849, 850, 851, 852, 854, 30, 855, 856, 858, 31, 859, 860, 861, 862] (by decide +kernel) (by decide +kernel) w h).1
set_option maxRecDepth 20000 in
theorem lc_18 : ∀ w ∈ wsL_law_r18, w ∈ lw_tbl := fun w h => (goodIn_r wsL_law_r18 [863, 864, 865, 866, 867, 868, 869, 871, 32, 872, 873, 875, 33, 876, 479, 480, 481, 482, 483, 484, 485, 486, 877, 878] (by decide +kernel) (by decide +kernel) w h).1
set_option maxRecDepth 20000 in
theorem lc_19 : ∀ w ∈ wsL_law_r19, w ∈ lw_tbl := fun w h => (goodIn_r wsL_law_r19 [879, 880, 487, 488, 489, 490, 491, 492, 493, 494, 495, 496, 497, 498, 881, 882, 883, 884, 499, 500, 501, 502, 503, 504] (by decide +kernel) (by decide +kernel) w h).1
set_option maxRecDepth 20000 in
theorem lc_20 : ∀ w ∈ wsL_law_r20, w ∈ lw_tbl := fun w h => (goodIn_r wsL_law_r20 [505, 506, 885, 886, 887, 888, 889, 890, 891, 892, 893, 894, 511, 512, 513, 514, 516, 515, 517, 518, 519, 520, 521, 522] (by decide +kernel) (by decide +kernel) w h).1
set_option maxRecDepth 20000 in
theorem lc_21 : ∀ w ∈ wsL_law_r21, w ∈ lw_tbl := fun w h => (goodIn_r wsL_law_r21 [895, 896, 897, 898, 523, 524, 525, 526, 527, 528, 529, 530, 531, 532, 899, 900, 901, 902, 533, 534, 535, 536, 537, 538] (by decide +kernel) (by decide +kernel) w h).1
set_option maxRecDepth 20000 in
theorem lc_22 : ∀ w ∈ wsL_law_r22, w ∈ lw_tbl := fun w h => (goodIn_r wsL_law_r22 [539, 540, 541, 543, 544, 903, 904, 905, 906, 545, 546, 547, 548, 549, 550, 551, 552, 553, 554, 556, 8, 557, 558, 907] (by decide +kernel) (by decide +kernel) w h).1
set_option maxRecDepth 20000 in
theorem lc_23 : ∀ w ∈ wsL_law_r23, w ∈ lw_tbl := fun w h => (goodIn_r wsL_law_r23 [908, 909, 910, 559, 560, 561, 562, 563, 564, 565, 566, 567, 569, 9, 570, 911, 912, 913, 914, 571, 572, 573, 574, 575] (by decide +kernel) (by decide +kernel) w h).1
set_option maxRecDepth 20000 in
theorem lc_24 : ∀ w ∈ wsL_law_r24, w ∈ lw_tbl := fun w h => (goodIn_r wsL_law_r24 [915, 916, 917, 918, 919, 920, 921, 576, 577, 578, 579, 580, 581, 582, 583, 584, 586, 10, 587, 588, 922, 923, 924, 925] (by decide +kernel) (by decide +kernel) w h).1
set_option maxRecDepth 20000 in
theorem lc_25 : ∀ w ∈ wsL_law_r25, w ∈ lw_tbl := fun w h => (goodIn_r wsL_law_r25 [589, 590, 591, 592, 593, 594, 595, 596, 597, 598, 599, 600, 601, 602, 603, 604, 606, 607, 608, 609, 926, 927, 928, 929] (by decide +kernel) (by decide +kernel) w h).1
set_option maxRecDepth 20000 in
theorem lc_26 : ∀ w ∈ wsL_law_r26, w ∈ lw_tbl := fun w h => (goodIn_r wsL_law_r26 [610, 611, 612, 613, 614, 615, 616, 617, 618, 619, 620, 621, 930, 931, 932, 933, 622, 623, 624, 625, 626, 627, 628, 629] (by decide +kernel) (by decide +kernel) w h).1
set_option maxRecDepth 20000 in
theorem lc_27 : ∀ w ∈ wsL_law_r27, w ∈ lw_tbl := fun w h => (goodIn_r wsL_law_r27 [630, 632, 11, 633, 934, 935, 936, 937, 734, 634, 635, 636, 637, 638, 639, 640, 641, 642, 643, 938, 939, 940, 941, 644] (by decide +kernel) (by decide +kernel) w h).1
set_option maxRecDepth 20000 in
theorem lc_28 : ∀ w ∈ wsL_law_r28, w ∈ lw_tbl := fun w h => (goodIn_r wsL_law_r28 [645, 646, 647, 648, 649, 650, 651, 216, 652, 942, 943, 944, 945, 653, 654, 655, 656, 946, 947, 948, 949, 657, 658, 659] (by decide +kernel) (by decide +kernel) w h).1
set_option maxRecDepth 20000 in
theorem lc_29 : ∀ w ∈ wsL_law_r29, w ∈ lw_tbl := fun w h => (goodIn_r wsL_law_r29 [660, 661, 662, 663, 664, 225, 218, 222, 665, 667, 12, 668, 219, 669, 671, 13, 672, 673, 675, 14, 676, 220, 677, 679] (by decide +kernel) (by decide +kernel) w h).1
set_option maxRecDepth 20000 in
theorem lc_30 : ∀ w ∈ wsL_law_r30, w ∈ lw_tbl := fun w h => (goodIn_r wsL_law_r30 [15, 680, 684, 681, 682, 683, 685, 687, 16, 688, 689, 691, 17, 692, 221, 693, 695, 18, 696, 224, 226, 697, 699, 19] (by decide +kernel) (by decide +kernel) w h).1
set_option maxRecDepth 20000 in
theorem lc_31 : ∀ w ∈ wsL_law_r31, w ∈ lw_tbl := fun w h => (goodIn_r wsL_law_r31 [700, 701, 702, 703, 704, 705, 706, 707, 708, 709, 710, 715, 711, 712, 713, 714, 950, 951, 952, 953, 736, 737, 738, 954] (by decide +kernel) (by decide +kernel) w h).1
set_option maxRecDepth 20000 in
theorem lc_32 : ∀ w ∈ wsL_law_r32, w ∈ lw_tbl := fun w h => (goodIn_r wsL_law_r32 [956, 34, 957, 735, 739, 958, 960, 35, 961, 740, 962, 964, 36, 965, 966, 968, 37, 969, 970, 972, 38, 973, 974, 976] (by decide +kernel) (by decide +kernel) w h).1
set_option maxRecDepth 20000 in
theorem lc_33 : ∀ w ∈ wsL_law_r33, w ∈ lw_tbl := fun w h => (goodIn_r wsL_law_r33 [39, 977, 978, 979, 980, 981, 982, 983, 716, 717, 718, 719, 720, 984, 985, 986, 987] (by decide +kernel) (by decide +kernel) w h).1
set_option maxRecDepth 20000 in
theorem lcX_0 : ∀ w ∈ wsX00, w ∈ lw_tbl := fun w h => (goodIn_r wsX00 [118, 120, 122, 124] (by decide +kernel) (by decide +kernel) w h).1
set_option maxRecDepth 20000 in
theorem lcX_1 : ∀ w ∈ wsX10, w ∈ lw_tbl := fun w h => (goodIn_r wsX10 [165, 167, 169, 171, 173, 175, 177, 179, 181, 183, 185, 187, 189] (by decide +kernel) (by decide +kernel) w h).1
set_option maxRecDepth 20000 in
theorem lcX_2 : ∀ w ∈ wsX20, w ∈ lw_tbl := fun w h => (goodIn_r wsX20 [198, 200, 202, 204, 206] (by decide +kernel) (by decide +kernel) w h).1
set_option maxRecDepth 20000 in
theorem lcX_3 : ∀ w ∈ wsX30, w ∈ lw_tbl := fun w h => (goodIn_r wsX30 [103] (by decide +kernel) (by decide +kernel) w h).1
set_option maxRecDepth 20000 in
theorem lcX_4 : ∀ w ∈ wsX40, w ∈ lw_tbl := fun w h => (goodIn_r wsX40 [227, 229, 231, 233, 235, 237, 239, 241, 243, 245] (by decide +kernel) (by decide +kernel) w h).1
set_option maxRecDepth 20000 in
theorem lcX_5 : ∀ w ∈ wsX50, w ∈ lw_tbl := fun w h => (goodIn_r wsX50 [92, 94, 96, 98] (by decide +kernel) (by decide +kernel) w h).1
set_option maxRecDepth 20000 in
theorem lcX_6 : ∀ w ∈ wsX60, w ∈ lw_tbl := fun w h => (goodIn_r wsX60 [140, 142, 144] (by decide +kernel) (by decide +kernel) w h).1
set_option maxRecDepth 20000 in
theorem lcX_7 : ∀ w ∈ wsX70, w ∈ lw_tbl := fun w h => (goodIn_r wsX70 [255, 257, 259, 261] (by decide +kernel) (by decide +kernel) w h).1
set_option maxRecDepth 20000 in
theorem lcX_8 : ∀ w ∈ wsX80, w ∈ lw_tbl := fun w h => (goodIn_r wsX80 [742, 744, 746, 748, 750, 752, 754, 756, 758, 760, 762, 764, 766, 768, 770] (by decide +kernel) (by decide +kernel) w h).1
theorem wsL_law_in : ∀ w ∈ wsL_law, w ∈ lw_tbl := List.forall_mem_append.mpr ⟨List.forall_mem_append.mpr ⟨List.forall_mem_append.mpr ⟨List.forall_mem_append.mpr ⟨List.forall_mem_append.mpr ⟨List.forall_mem_append.mpr ⟨List.forall_mem_append.mpr ⟨List.forall_mem_append.mpr ⟨List.forall_mem_append.mpr ⟨List.forall_mem_append.mpr ⟨List.forall_mem_append.mpr ⟨lc_1, List.forall_mem_append.mpr ⟨lc_2, List.forall_mem_append.mpr ⟨lc_3, List.forall_mem_append.mpr ⟨lc_4, List.forall_mem_append.mpr ⟨lc_5, List.forall_mem_append.mpr ⟨lc_6, List.forall_mem_append.mpr ⟨lc_7, List.forall_mem_append.mpr ⟨lc_8, List.forall_mem_append.mpr ⟨lc_9, List.forall_mem_append.mpr ⟨lc_10, List.forall_mem_append.mpr ⟨lc_11, List.forall_mem_append.mpr ⟨lc_12, List.forall_mem_append.mpr ⟨lc_13, List.forall_mem_append.mpr ⟨lc_14, List.forall_mem_append.mpr ⟨lc_15, List.forall_mem_append.mpr ⟨lc_16, List.forall_mem_append.mpr ⟨lc_17, List.forall_mem_append.mpr ⟨lc_18, List.forall_mem_append.mpr ⟨lc_19, List.forall_mem_append.mpr ⟨lc_20, List.forall_mem_append.mpr ⟨lc_21, List.forall_mem_append.mpr ⟨lc_22, List.forall_mem_append.mpr ⟨lc_23, List.forall_mem_append.mpr ⟨lc_24, List.forall_mem_append.mpr ⟨lc_25, List.forall_mem_append.mpr ⟨lc_26, List.forall_mem_append.mpr ⟨lc_27, List.forall_mem_append.mpr ⟨lc_28, List.forall_mem_append.mpr ⟨lc_29, List.forall_mem_append.mpr ⟨lc_30, List.forall_mem_append.mpr ⟨lc_31, List.forall_mem_append.mpr ⟨lc_32, lc_33⟩⟩⟩⟩⟩⟩⟩⟩⟩⟩⟩⟩⟩⟩⟩⟩⟩⟩⟩⟩⟩⟩⟩⟩⟩⟩⟩⟩⟩⟩⟩⟩, lcX_7⟩, lcX_8⟩, lcX_2⟩, lcX_4⟩, lcX_1⟩, lcX_3⟩, lcX_0⟩, lcX_5⟩, lcX_6⟩, fun _ h => absurd h List.not_mem_nil⟩
theorem inlX0 : ∀ w ∈ wsX00, w ∈ wsL_law := fun _ h => List.mem_append_left _ (List.mem_append_left _ (List.mem_append_left _ (List.mem_append_right _ h)))
theorem inX0 : ∀ w ∈ wsX00, w ∈ lw_tbl := fun w h => wsL_law_in w (inlX0 w h)
theorem inlX1 : ∀ w ∈ wsX10, w ∈ wsL_law := fun _ h => List.mem_append_left _ (List.mem_append_left _ (List.mem_append_left _ (List.mem_append_left _ (List.mem_append_left _ (List.mem_append_right _ h)))))
theorem inX1 : ∀ w ∈ wsX10, w ∈ lw_tbl := fun w h => wsL_law_in w (inlX1 w h)
theorem inlX2 : ∀ w ∈ wsX20, w ∈ wsL_law := fun _ h => List.mem_append_left _ (List.mem_append_left _ (List.mem_append_left _ (List.mem_append_left _ (List.mem_append_left _ (List.mem_append_left _ (List.mem_append_left _ (List.mem_append_right _ h)))))))
theorem inX2 : ∀ w ∈ wsX20, w ∈ lw_tbl := fun w h => wsL_law_in w (inlX2 w h)
theorem inlX3 : ∀ w ∈ wsX30, w ∈ wsL_law := fun _ h => List.mem_append_left _ (List.mem_append_left _ (List.mem_append_left _ (List.mem_append_left _ (List.mem_append_right _ h))))
theorem inX3 : ∀ w ∈ wsX30, w ∈ lw_tbl := fun w h => wsL_law_in w (inlX3 w h)
theorem inlX4 : ∀ w ∈ wsX40, w ∈ wsL_law := fun _ h => List.mem_append_left _ (List.mem_append_left _ (List.mem_append_left _ (List.mem_append_left _ (List.mem_append_left _ (List.mem_append_left _ (List.mem_append_right _ h))))))
theorem inX4 : ∀ w ∈ wsX40, w ∈ lw_tbl := fun w h => wsL_law_in w (inlX4 w h)
theorem inlX5 : ∀ w ∈ wsX50, w ∈ wsL_law := fun _ h => List.mem_append_left _ (List.mem_append_left _ (List.mem_append_right _ h))
theorem inX5 : ∀ w ∈ wsX50, w ∈ lw_tbl := fun w h => wsL_law_in w (inlX5 w h)
theorem inlX6 : ∀ w ∈ wsX60, w ∈ wsL_law := fun _ h => List.mem_append_left _ (List.mem_append_right _ h)
theorem inX6 : ∀ w ∈ wsX60, w ∈ lw_tbl := fun w h => wsL_law_in w (inlX6 w h)
theorem inlX7 : ∀ w ∈ wsX70, w ∈ wsL_law := fun _ h => List.mem_append_left _ (List.mem_append_left _ (List.mem_append_left _ (List.mem_append_left _ (List.mem_append_left _ (List.mem_append_left _ (List.mem_append_left _ (List.mem_append_left _ (List.mem_append_left _ (List.mem_append_right _ h)))))))))
theorem inX7 : ∀ w ∈ wsX70, w ∈ lw_tbl := fun w h => wsL_law_in w (inlX7 w h)
theorem inlX8 : ∀ w ∈ wsX80, w ∈ wsL_law := fun _ h => List.mem_append_left _ (List.mem_append_left _ (List.mem_append_left _ (List.mem_append_left _ (List.mem_append_left _ (List.mem_append_left _ (List.mem_append_left _ (List.mem_append_left _ (List.mem_append_right _ h))))))))
theorem inX8 : ∀ w ∈ wsX80, w ∈ lw_tbl := fun w h => wsL_law_in w (inlX8 w h)
end
section
theorem dX0_init_0 : decode cX0_init 0 = .ok (.aload_n 0, 1) := by decide +kernel
theorem dX0_init_1 : decode cX0_init 1 = .ok (.invokespecial 3, 3) := by decide +kernel
theorem dX0_init_4 : decode cX0_init 4 = .ok (.aload_n 0, 1) := by decide +kernel
theorem dX0_init_5 : decode cX0_init 5 = .ok (.bipush 30, 2) := by decide +kernel
theorem dX0_init_7 : decode cX0_init 7 = .ok (.putfield 9, 3) := by decide +kernel
theorem dX0_init_10 : decode cX0_init 10 = .ok (.return_, 1) := by decide +kernel
theorem dX0_copyFrom_0 : decode cX0_copyFrom 0 = .ok (.aload_n 0, 1) := by decide +kernel
theorem dX0_copyFrom_1 : decode cX0_copyFrom 1 = .ok (.aload_n 1, 1) := by decide +kernel
theorem dX0_copyFrom_2 : decode cX0_copyFrom 2 = .ok (.getfield 9, 3) := by decide +kernel
theorem dX0_copyFrom_5 : decode cX0_copyFrom 5 = .ok (.putfield 9, 3) := by decide +kernel
theorem dX0_copyFrom_8 : decode cX0_copyFrom 8 = .ok (.aload_n 0, 1) := by decide +kernel
theorem dX0_copyFrom_9 : decode cX0_copyFrom 9 = .ok (.aload_n 1, 1) := by decide +kernel
theorem dX0_copyFrom_10 : decode cX0_copyFrom 10 = .ok (.getfield 15, 3) := by decide +kernel
theorem dX0_copyFrom_13 : decode cX0_copyFrom 13 = .ok (.putfield 15, 3) := by decide +kernel
theorem dX0_copyFrom_16 : decode cX0_copyFrom 16 = .ok (.aload_n 0, 1) := by decide +kernel
theorem dX0_copyFrom_17 : decode cX0_copyFrom 17 = .ok (.aload_n 1, 1) := by decide +kernel
theorem dX0_copyFrom_18 : decode cX0_copyFrom 18 = .ok (.getfield 18, 3) := by decide +kernel
theorem dX0_copyFrom_21 : decode cX0_copyFrom 21 = .ok (.putfield 18, 3) := by decide +kernel
theorem dX0_copyFrom_24 : decode cX0_copyFrom 24 = .ok (.aload_n 0, 1) := by decide +kernel
theorem dX0_copyFrom_25 : decode cX0_copyFrom 25 = .ok (.aload_n 1, 1) := by decide +kernel
theorem dX0_copyFrom_26 : decode cX0_copyFrom 26 = .ok (.getfield 21, 3) := by decide +kernel
theorem dX0_copyFrom_29 : decode cX0_copyFrom 29 = .ok (.putfield 21, 3) := by decide +kernel
theorem dX0_copyFrom_32 : decode cX0_copyFrom 32 = .ok (.return_, 1) := by decide +kernel
set_option maxRecDepth 20000 in
theorem ggX0_gap_X0_gapAt : GoodIn wsX0_gap wsX0_gapAt := goodIn_r _ [6, 7, 8, 9, 10, 11, 12, 13, 14, 15] (by decide +kernel) (by decide +kernel)
set_option maxRecDepth 20000 in
theorem gX0_gap_X0_gapAt : GoodIn wsX0_gap (wsV RX0 24 RX0 yX0_gapAt wsX0_gapAt) := goodIn_app (goodIn_of _ (by decide +kernel)) ggX0_gap_X0_gapAt
theorem dX0_gap_0 : decode cX0_gap 0 = .ok (.aload_n 0, 1) := by decide +kernel
theorem dX0_gap_1 : decode cX0_gap 1 = .ok (.aload_n 0, 1) := by decide +kernel
theorem dX0_gap_2 : decode cX0_gap 2 = .ok (.getfield 9, 3) := by decide +kernel
theorem dX0_gap_5 : decode cX0_gap 5 = .ok (.invokevirtual 24, 3) := by decide +kernel
theorem dX0_gap_8 : decode cX0_gap 8 = .ok (.ireturn, 1) := by decide +kernel
theorem dX0_gapAt_0 : decode cX0_gapAt 0 = .ok (.bipush 10, 2) := by decide +kernel
theorem dX0_gapAt_2 : decode cX0_gapAt 2 = .ok (.bipush 10, 2) := by decide +kernel
theorem dX0_gapAt_4 : decode cX0_gapAt 4 = .ok (.iload_n 1, 1) := by decide +kernel
theorem dX0_gapAt_5 : decode cX0_gapAt 5 = .ok (.imul, 1) := by decide +kernel
theorem dX0_gapAt_6 : decode cX0_gapAt 6 = .ok (.aload_n 0, 1) := by decide +kernel
theorem dX0_gapAt_7 : decode cX0_gapAt 7 = .ok (.getfield 15, 3) := by decide +kernel
theorem dX0_gapAt_10 : decode cX0_gapAt 10 = .ok (.iconst 5, 1) := by decide +kernel
theorem dX0_gapAt_11 : decode cX0_gapAt 11 = .ok (.idiv, 1) := by decide +kernel
theorem dX0_gapAt_12 : decode cX0_gapAt 12 = .ok (.isub, 1) := by decide +kernel
theorem dX0_gapAt_13 : decode cX0_gapAt 13 = .ok (.invokestatic 28, 3) := by decide +kernel
theorem dX0_gapAt_16 : decode cX0_gapAt 16 = .ok (.ireturn, 1) := by decide +kernel
theorem dX0_warmByGrinding_0 : decode cX0_warmByGrinding 0 = .ok (.aload_n 0, 1) := by decide +kernel
theorem dX0_warmByGrinding_1 : decode cX0_warmByGrinding 1 = .ok (.sipush 300, 3) := by decide +kernel
theorem dX0_warmByGrinding_4 : decode cX0_warmByGrinding 4 = .ok (.aload_n 0, 1) := by decide +kernel
theorem dX0_warmByGrinding_5 : decode cX0_warmByGrinding 5 = .ok (.getfield 15, 3) := by decide +kernel
theorem dX0_warmByGrinding_8 : decode cX0_warmByGrinding 8 = .ok (.iload_n 1, 1) := by decide +kernel
theorem dX0_warmByGrinding_9 : decode cX0_warmByGrinding 9 = .ok (.iconst 4, 1) := by decide +kernel
theorem dX0_warmByGrinding_10 : decode cX0_warmByGrinding 10 = .ok (.idiv, 1) := by decide +kernel
theorem dX0_warmByGrinding_11 : decode cX0_warmByGrinding 11 = .ok (.iadd, 1) := by decide +kernel
theorem dX0_warmByGrinding_12 : decode cX0_warmByGrinding 12 = .ok (.invokestatic 34, 3) := by decide +kernel
theorem dX0_warmByGrinding_15 : decode cX0_warmByGrinding 15 = .ok (.putfield 15, 3) := by decide +kernel
theorem dX0_warmByGrinding_18 : decode cX0_warmByGrinding 18 = .ok (.aload_n 0, 1) := by decide +kernel
theorem dX0_warmByGrinding_19 : decode cX0_warmByGrinding 19 = .ok (.dup, 1) := by decide +kernel
theorem dX0_warmByGrinding_20 : decode cX0_warmByGrinding 20 = .ok (.getfield 18, 3) := by decide +kernel
theorem dX0_warmByGrinding_23 : decode cX0_warmByGrinding 23 = .ok (.iload_n 1, 1) := by decide +kernel
theorem dX0_warmByGrinding_24 : decode cX0_warmByGrinding 24 = .ok (.iadd, 1) := by decide +kernel
theorem dX0_warmByGrinding_25 : decode cX0_warmByGrinding 25 = .ok (.putfield 18, 3) := by decide +kernel
theorem dX0_warmByGrinding_28 : decode cX0_warmByGrinding 28 = .ok (.return_, 1) := by decide +kernel
set_option maxRecDepth 20000 in
theorem ggX0_cool_X7_fallOf : GoodIn wsX0_cool wsX7_fallOf := goodIn_r _ [4] (by decide +kernel) (by decide +kernel)
set_option maxRecDepth 20000 in
theorem gX0_cool_X7_fallOf_n37 : GoodIn wsX0_cool (wsX7_fallOf) := ggX0_cool_X7_fallOf
theorem dX0_cool_0 : decode cX0_cool 0 = .ok (.iconst 0, 1) := by decide +kernel
theorem dX0_cool_1 : decode cX0_cool 1 = .ok (.istore_n 2, 1) := by decide +kernel
theorem dX0_cool_2 : decode cX0_cool 2 = .ok (.iload_n 2, 1) := by decide +kernel
theorem dX0_cool_3 : decode cX0_cool 3 = .ok (.iload_n 1, 1) := by decide +kernel
theorem dX0_cool_4 : decode cX0_cool 4 = .ok (.if_icmp .ge 32, 3) := by decide +kernel
theorem dX0_cool_7 : decode cX0_cool 7 = .ok (.aload_n 0, 1) := by decide +kernel
theorem dX0_cool_8 : decode cX0_cool 8 = .ok (.getfield 15, 3) := by decide +kernel
theorem dX0_cool_11 : decode cX0_cool 11 = .ok (.ifCond .le 25, 3) := by decide +kernel
theorem dX0_cool_14 : decode cX0_cool 14 = .ok (.aload_n 0, 1) := by decide +kernel
theorem dX0_cool_15 : decode cX0_cool 15 = .ok (.dup, 1) := by decide +kernel
theorem dX0_cool_16 : decode cX0_cool 16 = .ok (.getfield 15, 3) := by decide +kernel
theorem dX0_cool_19 : decode cX0_cool 19 = .ok (.aload_n 0, 1) := by decide +kernel
theorem dX0_cool_20 : decode cX0_cool 20 = .ok (.getfield 15, 3) := by decide +kernel
theorem dX0_cool_23 : decode cX0_cool 23 = .ok (.invokestatic 37, 3) := by decide +kernel
theorem dX0_cool_26 : decode cX0_cool 26 = .ok (.isub, 1) := by decide +kernel
theorem dX0_cool_27 : decode cX0_cool 27 = .ok (.putfield 15, 3) := by decide +kernel
theorem dX0_cool_30 : decode cX0_cool 30 = .ok (.iinc 2 1, 3) := by decide +kernel
theorem dX0_cool_33 : decode cX0_cool 33 = .ok (.goto (-31), 3) := by decide +kernel
theorem dX0_cool_36 : decode cX0_cool 36 = .ok (.return_, 1) := by decide +kernel
set_option maxRecDepth 20000 in
theorem ggX0_coolingsTo_X7_fallOf : GoodIn wsX0_coolingsTo wsX7_fallOf := goodIn_r _ [4] (by decide +kernel) (by decide +kernel)
set_option maxRecDepth 20000 in
theorem gX0_coolingsTo_X7_fallOf_n37 : GoodIn wsX0_coolingsTo (wsX7_fallOf) := ggX0_coolingsTo_X7_fallOf
theorem dX0_coolingsTo_0 : decode cX0_coolingsTo 0 = .ok (.iconst 0, 1) := by decide +kernel
theorem dX0_coolingsTo_1 : decode cX0_coolingsTo 1 = .ok (.istore_n 2, 1) := by decide +kernel
theorem dX0_coolingsTo_2 : decode cX0_coolingsTo 2 = .ok (.aload_n 0, 1) := by decide +kernel
theorem dX0_coolingsTo_3 : decode cX0_coolingsTo 3 = .ok (.getfield 15, 3) := by decide +kernel
theorem dX0_coolingsTo_6 : decode cX0_coolingsTo 6 = .ok (.istore_n 3, 1) := by decide +kernel
theorem dX0_coolingsTo_7 : decode cX0_coolingsTo 7 = .ok (.iload_n 3, 1) := by decide +kernel
theorem dX0_coolingsTo_8 : decode cX0_coolingsTo 8 = .ok (.iload_n 1, 1) := by decide +kernel
theorem dX0_coolingsTo_9 : decode cX0_coolingsTo 9 = .ok (.if_icmp .le 23, 3) := by decide +kernel
theorem dX0_coolingsTo_12 : decode cX0_coolingsTo 12 = .ok (.iload_n 2, 1) := by decide +kernel
theorem dX0_coolingsTo_13 : decode cX0_coolingsTo 13 = .ok (.sipush 300, 3) := by decide +kernel
theorem dX0_coolingsTo_16 : decode cX0_coolingsTo 16 = .ok (.if_icmp .ge 16, 3) := by decide +kernel
theorem dX0_coolingsTo_19 : decode cX0_coolingsTo 19 = .ok (.iinc 2 1, 3) := by decide +kernel
theorem dX0_coolingsTo_22 : decode cX0_coolingsTo 22 = .ok (.iload_n 3, 1) := by decide +kernel
theorem dX0_coolingsTo_23 : decode cX0_coolingsTo 23 = .ok (.iload_n 3, 1) := by decide +kernel
theorem dX0_coolingsTo_24 : decode cX0_coolingsTo 24 = .ok (.invokestatic 37, 3) := by decide +kernel
theorem dX0_coolingsTo_27 : decode cX0_coolingsTo 27 = .ok (.isub, 1) := by decide +kernel
theorem dX0_coolingsTo_28 : decode cX0_coolingsTo 28 = .ok (.istore_n 3, 1) := by decide +kernel
theorem dX0_coolingsTo_29 : decode cX0_coolingsTo 29 = .ok (.goto (-22), 3) := by decide +kernel
theorem dX0_coolingsTo_32 : decode cX0_coolingsTo 32 = .ok (.iload_n 2, 1) := by decide +kernel
theorem dX0_coolingsTo_33 : decode cX0_coolingsTo 33 = .ok (.ireturn, 1) := by decide +kernel
theorem dX0_correctBy_0 : decode cX0_correctBy 0 = .ok (.aload_n 0, 1) := by decide +kernel
theorem dX0_correctBy_1 : decode cX0_correctBy 1 = .ok (.getfield 9, 3) := by decide +kernel
theorem dX0_correctBy_4 : decode cX0_correctBy 4 = .ok (.iload_n 1, 1) := by decide +kernel
theorem dX0_correctBy_5 : decode cX0_correctBy 5 = .ok (.imul, 1) := by decide +kernel
theorem dX0_correctBy_6 : decode cX0_correctBy 6 = .ok (.iload_n 2, 1) := by decide +kernel
theorem dX0_correctBy_7 : decode cX0_correctBy 7 = .ok (.iconst 2, 1) := by decide +kernel
theorem dX0_correctBy_8 : decode cX0_correctBy 8 = .ok (.idiv, 1) := by decide +kernel
theorem dX0_correctBy_9 : decode cX0_correctBy 9 = .ok (.iadd, 1) := by decide +kernel
theorem dX0_correctBy_10 : decode cX0_correctBy 10 = .ok (.iconst 1, 1) := by decide +kernel
theorem dX0_correctBy_11 : decode cX0_correctBy 11 = .ok (.iload_n 2, 1) := by decide +kernel
theorem dX0_correctBy_12 : decode cX0_correctBy 12 = .ok (.invokestatic 28, 3) := by decide +kernel
theorem dX0_correctBy_15 : decode cX0_correctBy 15 = .ok (.idiv, 1) := by decide +kernel
theorem dX0_correctBy_16 : decode cX0_correctBy 16 = .ok (.istore_n 3, 1) := by decide +kernel
theorem dX0_correctBy_17 : decode cX0_correctBy 17 = .ok (.aload_n 0, 1) := by decide +kernel
theorem dX0_correctBy_18 : decode cX0_correctBy 18 = .ok (.iconst 1, 1) := by decide +kernel
theorem dX0_correctBy_19 : decode cX0_correctBy 19 = .ok (.bipush 60, 2) := by decide +kernel
theorem dX0_correctBy_21 : decode cX0_correctBy 21 = .ok (.iload_n 3, 1) := by decide +kernel
theorem dX0_correctBy_22 : decode cX0_correctBy 22 = .ok (.invokestatic 34, 3) := by decide +kernel
theorem dX0_correctBy_25 : decode cX0_correctBy 25 = .ok (.invokestatic 28, 3) := by decide +kernel
theorem dX0_correctBy_28 : decode cX0_correctBy 28 = .ok (.putfield 9, 3) := by decide +kernel
theorem dX0_correctBy_31 : decode cX0_correctBy 31 = .ok (.aload_n 0, 1) := by decide +kernel
theorem dX0_correctBy_32 : decode cX0_correctBy 32 = .ok (.dup, 1) := by decide +kernel
theorem dX0_correctBy_33 : decode cX0_correctBy 33 = .ok (.getfield 21, 3) := by decide +kernel
theorem dX0_correctBy_36 : decode cX0_correctBy 36 = .ok (.iconst 1, 1) := by decide +kernel
theorem dX0_correctBy_37 : decode cX0_correctBy 37 = .ok (.iadd, 1) := by decide +kernel
theorem dX0_correctBy_38 : decode cX0_correctBy 38 = .ok (.putfield 21, 3) := by decide +kernel
theorem dX0_correctBy_41 : decode cX0_correctBy 41 = .ok (.return_, 1) := by decide +kernel
set_option maxRecDepth 20000 in
theorem ggX0_tell_X0_gap : GoodIn wsX0_tell wsX0_gap := goodIn_r _ [9, 1, 10, 11, 12, 8, 13, 2, 14, 15, 16, 17, 18, 19, 20, 21] (by decide +kernel) (by decide +kernel)
set_option maxRecDepth 20000 in
theorem gX0_tell_X0_gap : GoodIn wsX0_tell (wsV RX0 40 RX0 yX0_gap wsX0_gap) := goodIn_app (goodIn_of _ (by decide +kernel)) ggX0_tell_X0_gap
theorem dX0_tell_0 : decode cX0_tell 0 = .ok (.iload_n 1, 1) := by decide +kernel
theorem dX0_tell_1 : decode cX0_tell 1 = .ok (.tableswitch 51 0 3 #[31, 36, 41, 46], 31) := by decide +kernel
theorem dX0_tell_32 : decode cX0_tell 32 = .ok (.aload_n 0, 1) := by decide +kernel
theorem dX0_tell_33 : decode cX0_tell 33 = .ok (.getfield 9, 3) := by decide +kernel
theorem dX0_tell_36 : decode cX0_tell 36 = .ok (.ireturn, 1) := by decide +kernel
theorem dX0_tell_37 : decode cX0_tell 37 = .ok (.aload_n 0, 1) := by decide +kernel
theorem dX0_tell_38 : decode cX0_tell 38 = .ok (.getfield 15, 3) := by decide +kernel
theorem dX0_tell_41 : decode cX0_tell 41 = .ok (.ireturn, 1) := by decide +kernel
theorem dX0_tell_42 : decode cX0_tell 42 = .ok (.aload_n 0, 1) := by decide +kernel
theorem dX0_tell_43 : decode cX0_tell 43 = .ok (.invokevirtual 40, 3) := by decide +kernel
theorem dX0_tell_46 : decode cX0_tell 46 = .ok (.ireturn, 1) := by decide +kernel
theorem dX0_tell_47 : decode cX0_tell 47 = .ok (.aload_n 0, 1) := by decide +kernel
theorem dX0_tell_48 : decode cX0_tell 48 = .ok (.getfield 18, 3) := by decide +kernel
theorem dX0_tell_51 : decode cX0_tell 51 = .ok (.ireturn, 1) := by decide +kernel
theorem dX0_tell_52 : decode cX0_tell 52 = .ok (.aload_n 0, 1) := by decide +kernel
theorem dX0_tell_53 : decode cX0_tell 53 = .ok (.getfield 21, 3) := by decide +kernel
theorem dX0_tell_56 : decode cX0_tell 56 = .ok (.ireturn, 1) := by decide +kernel
set_option maxRecDepth 20000 in
theorem ggX1_init_X3_init : GoodIn wsX1_init wsX3_init := goodIn_r _ [25, 26, 2, 3, 27, 14, 15, 28, 29, 30, 31, 32, 22, 33, 34, 62, 63, 64, 65, 44] (by decide +kernel) (by decide +kernel)
set_option maxRecDepth 20000 in
theorem gX1_init_X3_init_n11 : GoodIn wsX1_init (wsX3_init) := ggX1_init_X3_init
set_option maxRecDepth 20000 in
theorem ggX1_init_X0_init : GoodIn wsX1_init wsX0_init := goodIn_r _ [36, 37, 2, 3, 38, 58, 59, 60, 61] (by decide +kernel) (by decide +kernel)
set_option maxRecDepth 20000 in
theorem gX1_init_X0_init_n20 : GoodIn wsX1_init (wsX0_init) := ggX1_init_X0_init
set_option maxRecDepth 20000 in
theorem ggX1_init_X5_init : GoodIn wsX1_init wsX5_init := goodIn_r _ [31, 32, 2, 3, 22, 33, 34, 62, 63, 64, 65] (by decide +kernel) (by decide +kernel)
set_option maxRecDepth 20000 in
theorem gX1_init_X5_init : GoodIn wsX1_init (wsX5_init) := ggX1_init_X5_init
set_option maxRecDepth 20000 in
theorem ggX1_init_X6_init : GoodIn wsX1_init wsX6_init := goodIn_r _ [41, 42, 2, 3, 22, 43, 66, 67, 68] (by decide +kernel) (by decide +kernel)
set_option maxRecDepth 20000 in
theorem gX1_init_X6_init_n42 : GoodIn wsX1_init (wsX6_init) := ggX1_init_X6_init
theorem dX1_init_0 : decode cX1_init 0 = .ok (.aload_n 0, 1) := by decide +kernel
theorem dX1_init_1 : decode cX1_init 1 = .ok (.invokespecial 3, 3) := by decide +kernel
theorem dX1_init_4 : decode cX1_init 4 = .ok (.aload_n 0, 1) := by decide +kernel
theorem dX1_init_5 : decode cX1_init 5 = .ok (.new 9, 3) := by decide +kernel
theorem dX1_init_8 : decode cX1_init 8 = .ok (.dup, 1) := by decide +kernel
theorem dX1_init_9 : decode cX1_init 9 = .ok (.invokespecial 11, 3) := by decide +kernel
theorem dX1_init_12 : decode cX1_init 12 = .ok (.putfield 12, 3) := by decide +kernel
theorem dX1_init_15 : decode cX1_init 15 = .ok (.aload_n 0, 1) := by decide +kernel
theorem dX1_init_16 : decode cX1_init 16 = .ok (.new 18, 3) := by decide +kernel
theorem dX1_init_19 : decode cX1_init 19 = .ok (.dup, 1) := by decide +kernel
theorem dX1_init_20 : decode cX1_init 20 = .ok (.invokespecial 20, 3) := by decide +kernel
theorem dX1_init_23 : decode cX1_init 23 = .ok (.putfield 21, 3) := by decide +kernel
theorem dX1_init_26 : decode cX1_init 26 = .ok (.aload_n 0, 1) := by decide +kernel
theorem dX1_init_27 : decode cX1_init 27 = .ok (.new 18, 3) := by decide +kernel
theorem dX1_init_30 : decode cX1_init 30 = .ok (.dup, 1) := by decide +kernel
theorem dX1_init_31 : decode cX1_init 31 = .ok (.invokespecial 20, 3) := by decide +kernel
theorem dX1_init_34 : decode cX1_init 34 = .ok (.putfield 25, 3) := by decide +kernel
theorem dX1_init_37 : decode cX1_init 37 = .ok (.aload_n 0, 1) := by decide +kernel
theorem dX1_init_38 : decode cX1_init 38 = .ok (.new 28, 3) := by decide +kernel
theorem dX1_init_41 : decode cX1_init 41 = .ok (.dup, 1) := by decide +kernel
theorem dX1_init_42 : decode cX1_init 42 = .ok (.bipush 106, 2) := by decide +kernel
theorem dX1_init_44 : decode cX1_init 44 = .ok (.invokespecial 30, 3) := by decide +kernel
theorem dX1_init_47 : decode cX1_init 47 = .ok (.putfield 33, 3) := by decide +kernel
theorem dX1_init_50 : decode cX1_init 50 = .ok (.aload_n 0, 1) := by decide +kernel
theorem dX1_init_51 : decode cX1_init 51 = .ok (.new 28, 3) := by decide +kernel
theorem dX1_init_54 : decode cX1_init 54 = .ok (.dup, 1) := by decide +kernel
theorem dX1_init_55 : decode cX1_init 55 = .ok (.sipush 400, 3) := by decide +kernel
theorem dX1_init_58 : decode cX1_init 58 = .ok (.invokespecial 30, 3) := by decide +kernel
theorem dX1_init_61 : decode cX1_init 61 = .ok (.putfield 37, 3) := by decide +kernel
theorem dX1_init_64 : decode cX1_init 64 = .ok (.aload_n 0, 1) := by decide +kernel
theorem dX1_init_65 : decode cX1_init 65 = .ok (.new 40, 3) := by decide +kernel
theorem dX1_init_68 : decode cX1_init 68 = .ok (.dup, 1) := by decide +kernel
theorem dX1_init_69 : decode cX1_init 69 = .ok (.invokespecial 42, 3) := by decide +kernel
theorem dX1_init_72 : decode cX1_init 72 = .ok (.putfield 43, 3) := by decide +kernel
theorem dX1_init_75 : decode cX1_init 75 = .ok (.aload_n 0, 1) := by decide +kernel
theorem dX1_init_76 : decode cX1_init 76 = .ok (.bipush 6, 2) := by decide +kernel
theorem dX1_init_78 : decode cX1_init 78 = .ok (.newarray .int, 2) := by decide +kernel
theorem dX1_init_80 : decode cX1_init 80 = .ok (.dup, 1) := by decide +kernel
theorem dX1_init_81 : decode cX1_init 81 = .ok (.iconst 0, 1) := by decide +kernel
theorem dX1_init_82 : decode cX1_init 82 = .ok (.sipush 280, 3) := by decide +kernel
theorem dX1_init_85 : decode cX1_init 85 = .ok (.iastore, 1) := by decide +kernel
theorem dX1_init_86 : decode cX1_init 86 = .ok (.dup, 1) := by decide +kernel
theorem dX1_init_87 : decode cX1_init 87 = .ok (.iconst 1, 1) := by decide +kernel
theorem dX1_init_88 : decode cX1_init 88 = .ok (.bipush 20, 2) := by decide +kernel
theorem dX1_init_90 : decode cX1_init 90 = .ok (.iastore, 1) := by decide +kernel
theorem dX1_init_91 : decode cX1_init 91 = .ok (.dup, 1) := by decide +kernel
theorem dX1_init_92 : decode cX1_init 92 = .ok (.iconst 2, 1) := by decide +kernel
theorem dX1_init_93 : decode cX1_init 93 = .ok (.bipush 40, 2) := by decide +kernel
theorem dX1_init_95 : decode cX1_init 95 = .ok (.iastore, 1) := by decide +kernel
theorem dX1_init_96 : decode cX1_init 96 = .ok (.dup, 1) := by decide +kernel
theorem dX1_init_97 : decode cX1_init 97 = .ok (.iconst 3, 1) := by decide +kernel
theorem dX1_init_98 : decode cX1_init 98 = .ok (.bipush 90, 2) := by decide +kernel
theorem dX1_init_100 : decode cX1_init 100 = .ok (.iastore, 1) := by decide +kernel
theorem dX1_init_101 : decode cX1_init 101 = .ok (.dup, 1) := by decide +kernel
theorem dX1_init_102 : decode cX1_init 102 = .ok (.iconst 4, 1) := by decide +kernel
theorem dX1_init_103 : decode cX1_init 103 = .ok (.bipush 120, 2) := by decide +kernel
theorem dX1_init_105 : decode cX1_init 105 = .ok (.iastore, 1) := by decide +kernel
theorem dX1_init_106 : decode cX1_init 106 = .ok (.dup, 1) := by decide +kernel
theorem dX1_init_107 : decode cX1_init 107 = .ok (.iconst 5, 1) := by decide +kernel
theorem dX1_init_108 : decode cX1_init 108 = .ok (.iconst 0, 1) := by decide +kernel
theorem dX1_init_109 : decode cX1_init 109 = .ok (.iastore, 1) := by decide +kernel
theorem dX1_init_110 : decode cX1_init 110 = .ok (.putfield 47, 3) := by decide +kernel
theorem dX1_init_113 : decode cX1_init 113 = .ok (.return_, 1) := by decide +kernel
set_option maxRecDepth 20000 in
theorem ggX1_copyFrom_X3_copyFrom : GoodIn wsX1_copyFrom wsX3_copyFrom := goodIn_r _ [22, 23, 24, 25, 26, 27, 28, 29, 30, 31, 32, 33, 34, 35, 36, 9, 10, 11, 37, 70, 71, 72, 73, 74] (by decide +kernel) (by decide +kernel)
set_option maxRecDepth 20000 in
theorem gX1_copyFrom_X3_copyFrom : GoodIn wsX1_copyFrom (wsV RX1 51 RX3 yX3_copyFrom wsX3_copyFrom) := goodIn_app (goodIn_of _ (by decide +kernel)) ggX1_copyFrom_X3_copyFrom
set_option maxRecDepth 20000 in
theorem ggX1_copyFrom_X0_copyFrom : GoodIn wsX1_copyFrom wsX0_copyFrom := goodIn_r _ [42, 43, 44, 45, 46, 75, 76, 77, 78] (by decide +kernel) (by decide +kernel)
set_option maxRecDepth 20000 in
theorem gX1_copyFrom_X0_copyFrom : GoodIn wsX1_copyFrom (wsV RX1 55 RX0 yX0_copyFrom wsX0_copyFrom) := goodIn_app (goodIn_of _ (by decide +kernel)) ggX1_copyFrom_X0_copyFrom
set_option maxRecDepth 20000 in
theorem ggX1_copyFrom_X5_copyFrom : GoodIn wsX1_copyFrom wsX5_copyFrom := goodIn_r _ [28, 29, 30, 31, 32, 33, 34, 35, 36, 9, 10, 11, 37, 71, 72, 73, 74] (by decide +kernel) (by decide +kernel)
set_option maxRecDepth 20000 in
theorem gX1_copyFrom_X5_copyFrom : GoodIn wsX1_copyFrom (wsV RX1 58 RX5 yX5_copyFrom wsX5_copyFrom) := goodIn_app (goodIn_of _ (by decide +kernel)) ggX1_copyFrom_X5_copyFrom
set_option maxRecDepth 20000 in
theorem ggX1_copyFrom_X6_copyFrom : GoodIn wsX1_copyFrom wsX6_copyFrom := goodIn_r _ [52, 53, 54, 9, 10, 11, 55, 56, 79, 80, 81] (by decide +kernel) (by decide +kernel)
set_option maxRecDepth 20000 in
theorem gX1_copyFrom_X6_copyFrom : GoodIn wsX1_copyFrom (wsV RX1 61 RX6 yX6_copyFrom wsX6_copyFrom) := goodIn_app (goodIn_of _ (by decide +kernel)) ggX1_copyFrom_X6_copyFrom
theorem dX1_copyFrom_0 : decode cX1_copyFrom 0 = .ok (.aload_n 0, 1) := by decide +kernel
theorem dX1_copyFrom_1 : decode cX1_copyFrom 1 = .ok (.getfield 12, 3) := by decide +kernel
theorem dX1_copyFrom_4 : decode cX1_copyFrom 4 = .ok (.aload_n 1, 1) := by decide +kernel
theorem dX1_copyFrom_5 : decode cX1_copyFrom 5 = .ok (.getfield 12, 3) := by decide +kernel
theorem dX1_copyFrom_8 : decode cX1_copyFrom 8 = .ok (.invokevirtual 51, 3) := by decide +kernel
theorem dX1_copyFrom_11 : decode cX1_copyFrom 11 = .ok (.aload_n 0, 1) := by decide +kernel
theorem dX1_copyFrom_12 : decode cX1_copyFrom 12 = .ok (.getfield 21, 3) := by decide +kernel
theorem dX1_copyFrom_15 : decode cX1_copyFrom 15 = .ok (.aload_n 1, 1) := by decide +kernel
theorem dX1_copyFrom_16 : decode cX1_copyFrom 16 = .ok (.getfield 21, 3) := by decide +kernel
theorem dX1_copyFrom_19 : decode cX1_copyFrom 19 = .ok (.invokevirtual 55, 3) := by decide +kernel
theorem dX1_copyFrom_22 : decode cX1_copyFrom 22 = .ok (.aload_n 0, 1) := by decide +kernel
theorem dX1_copyFrom_23 : decode cX1_copyFrom 23 = .ok (.getfield 25, 3) := by decide +kernel
theorem dX1_copyFrom_26 : decode cX1_copyFrom 26 = .ok (.aload_n 1, 1) := by decide +kernel
theorem dX1_copyFrom_27 : decode cX1_copyFrom 27 = .ok (.getfield 25, 3) := by decide +kernel
theorem dX1_copyFrom_30 : decode cX1_copyFrom 30 = .ok (.invokevirtual 55, 3) := by decide +kernel
theorem dX1_copyFrom_33 : decode cX1_copyFrom 33 = .ok (.aload_n 0, 1) := by decide +kernel
theorem dX1_copyFrom_34 : decode cX1_copyFrom 34 = .ok (.getfield 33, 3) := by decide +kernel
theorem dX1_copyFrom_37 : decode cX1_copyFrom 37 = .ok (.aload_n 1, 1) := by decide +kernel
theorem dX1_copyFrom_38 : decode cX1_copyFrom 38 = .ok (.getfield 33, 3) := by decide +kernel
theorem dX1_copyFrom_41 : decode cX1_copyFrom 41 = .ok (.invokevirtual 58, 3) := by decide +kernel
theorem dX1_copyFrom_44 : decode cX1_copyFrom 44 = .ok (.aload_n 0, 1) := by decide +kernel
theorem dX1_copyFrom_45 : decode cX1_copyFrom 45 = .ok (.getfield 37, 3) := by decide +kernel
theorem dX1_copyFrom_48 : decode cX1_copyFrom 48 = .ok (.aload_n 1, 1) := by decide +kernel
theorem dX1_copyFrom_49 : decode cX1_copyFrom 49 = .ok (.getfield 37, 3) := by decide +kernel
theorem dX1_copyFrom_52 : decode cX1_copyFrom 52 = .ok (.invokevirtual 58, 3) := by decide +kernel
theorem dX1_copyFrom_55 : decode cX1_copyFrom 55 = .ok (.aload_n 0, 1) := by decide +kernel
theorem dX1_copyFrom_56 : decode cX1_copyFrom 56 = .ok (.getfield 43, 3) := by decide +kernel
theorem dX1_copyFrom_59 : decode cX1_copyFrom 59 = .ok (.aload_n 1, 1) := by decide +kernel
theorem dX1_copyFrom_60 : decode cX1_copyFrom 60 = .ok (.getfield 43, 3) := by decide +kernel
theorem dX1_copyFrom_63 : decode cX1_copyFrom 63 = .ok (.invokevirtual 61, 3) := by decide +kernel
theorem dX1_copyFrom_66 : decode cX1_copyFrom 66 = .ok (.aload_n 1, 1) := by decide +kernel
theorem dX1_copyFrom_67 : decode cX1_copyFrom 67 = .ok (.getfield 47, 3) := by decide +kernel
theorem dX1_copyFrom_70 : decode cX1_copyFrom 70 = .ok (.iconst 0, 1) := by decide +kernel
theorem dX1_copyFrom_71 : decode cX1_copyFrom 71 = .ok (.aload_n 0, 1) := by decide +kernel
theorem dX1_copyFrom_72 : decode cX1_copyFrom 72 = .ok (.getfield 47, 3) := by decide +kernel
theorem dX1_copyFrom_75 : decode cX1_copyFrom 75 = .ok (.iconst 0, 1) := by decide +kernel
theorem dX1_copyFrom_76 : decode cX1_copyFrom 76 = .ok (.aload_n 0, 1) := by decide +kernel
theorem dX1_copyFrom_77 : decode cX1_copyFrom 77 = .ok (.getfield 47, 3) := by decide +kernel
theorem dX1_copyFrom_80 : decode cX1_copyFrom 80 = .ok (.arraylength, 1) := by decide +kernel
theorem dX1_copyFrom_81 : decode cX1_copyFrom 81 = .ok (.invokestatic 64, 3) := by decide +kernel
theorem dX1_copyFrom_84 : decode cX1_copyFrom 84 = .ok (.aload_n 0, 1) := by decide +kernel
theorem dX1_copyFrom_85 : decode cX1_copyFrom 85 = .ok (.aload_n 1, 1) := by decide +kernel
theorem dX1_copyFrom_86 : decode cX1_copyFrom 86 = .ok (.getfield 70, 3) := by decide +kernel
theorem dX1_copyFrom_89 : decode cX1_copyFrom 89 = .ok (.putfield 70, 3) := by decide +kernel
theorem dX1_copyFrom_92 : decode cX1_copyFrom 92 = .ok (.aload_n 0, 1) := by decide +kernel
theorem dX1_copyFrom_93 : decode cX1_copyFrom 93 = .ok (.aload_n 1, 1) := by decide +kernel
theorem dX1_copyFrom_94 : decode cX1_copyFrom 94 = .ok (.getfield 74, 3) := by decide +kernel
theorem dX1_copyFrom_97 : decode cX1_copyFrom 97 = .ok (.putfield 74, 3) := by decide +kernel
theorem dX1_copyFrom_100 : decode cX1_copyFrom 100 = .ok (.aload_n 0, 1) := by decide +kernel
theorem dX1_copyFrom_101 : decode cX1_copyFrom 101 = .ok (.aload_n 1, 1) := by decide +kernel
theorem dX1_copyFrom_102 : decode cX1_copyFrom 102 = .ok (.getfield 77, 3) := by decide +kernel
theorem dX1_copyFrom_105 : decode cX1_copyFrom 105 = .ok (.putfield 77, 3) := by decide +kernel
theorem dX1_copyFrom_108 : decode cX1_copyFrom 108 = .ok (.aload_n 0, 1) := by decide +kernel
theorem dX1_copyFrom_109 : decode cX1_copyFrom 109 = .ok (.aload_n 1, 1) := by decide +kernel
theorem dX1_copyFrom_110 : decode cX1_copyFrom 110 = .ok (.getfield 80, 3) := by decide +kernel
theorem dX1_copyFrom_113 : decode cX1_copyFrom 113 = .ok (.putfield 80, 3) := by decide +kernel
theorem dX1_copyFrom_116 : decode cX1_copyFrom 116 = .ok (.aload_n 0, 1) := by decide +kernel
theorem dX1_copyFrom_117 : decode cX1_copyFrom 117 = .ok (.aload_n 1, 1) := by decide +kernel
theorem dX1_copyFrom_118 : decode cX1_copyFrom 118 = .ok (.getfield 83, 3) := by decide +kernel
theorem dX1_copyFrom_121 : decode cX1_copyFrom 121 = .ok (.putfield 83, 3) := by decide +kernel
theorem dX1_copyFrom_124 : decode cX1_copyFrom 124 = .ok (.aload_n 0, 1) := by decide +kernel
theorem dX1_copyFrom_125 : decode cX1_copyFrom 125 = .ok (.aload_n 1, 1) := by decide +kernel
theorem dX1_copyFrom_126 : decode cX1_copyFrom 126 = .ok (.getfield 86, 3) := by decide +kernel
theorem dX1_copyFrom_129 : decode cX1_copyFrom 129 = .ok (.putfield 86, 3) := by decide +kernel
theorem dX1_copyFrom_132 : decode cX1_copyFrom 132 = .ok (.return_, 1) := by decide +kernel
theorem dX1_burrNumbered_0 : decode cX1_burrNumbered 0 = .ok (.iload_n 1, 1) := by decide +kernel
theorem dX1_burrNumbered_1 : decode cX1_burrNumbered 1 = .ok (.ifCond .ne 10, 3) := by decide +kernel
theorem dX1_burrNumbered_4 : decode cX1_burrNumbered 4 = .ok (.aload_n 0, 1) := by decide +kernel
theorem dX1_burrNumbered_5 : decode cX1_burrNumbered 5 = .ok (.getfield 21, 3) := by decide +kernel
theorem dX1_burrNumbered_8 : decode cX1_burrNumbered 8 = .ok (.goto 7, 3) := by decide +kernel
theorem dX1_burrNumbered_11 : decode cX1_burrNumbered 11 = .ok (.aload_n 0, 1) := by decide +kernel
theorem dX1_burrNumbered_12 : decode cX1_burrNumbered 12 = .ok (.getfield 25, 3) := by decide +kernel
theorem dX1_burrNumbered_15 : decode cX1_burrNumbered 15 = .ok (.areturn, 1) := by decide +kernel
set_option maxRecDepth 20000 in
theorem ggX1_fillIn_X7_isZeroOrOne : GoodIn wsX1_fillIn wsX7_isZeroOrOne := goodIn_r _ [7] (by decide +kernel) (by decide +kernel)
set_option maxRecDepth 20000 in
theorem gX1_fillIn_X7_isZeroOrOne_n89 : GoodIn wsX1_fillIn (wsX7_isZeroOrOne) := ggX1_fillIn_X7_isZeroOrOne
set_option maxRecDepth 20000 in
theorem ggX1_fillIn_X3_hasRoomFor : GoodIn wsX1_fillIn wsX3_hasRoomFor := goodIn_r _ [12, 13, 14, 15, 16, 11, 17, 18, 19, 20, 21, 22, 23, 24, 56, 57, 58, 59, 60] (by decide +kernel) (by decide +kernel)
set_option maxRecDepth 20000 in
theorem gX1_fillIn_X3_hasRoomFor : GoodIn wsX1_fillIn (wsV RX1 94 RX3 yX3_hasRoomFor wsX3_hasRoomFor) := goodIn_app (goodIn_of _ (by decide +kernel)) ggX1_fillIn_X3_hasRoomFor
set_option maxRecDepth 20000 in
theorem ggX1_fillIn_X3_pourIn : GoodIn wsX1_fillIn wsX3_pourIn := goodIn_r _ [28, 13, 14, 15, 16, 11, 17, 18, 19, 20, 21, 22, 23, 24, 29, 30, 31, 32, 33, 34, 35, 36, 37, 38, 56, 57, 58, 59, 60] (by decide +kernel) (by decide +kernel)
set_option maxRecDepth 20000 in
theorem gX1_fillIn_X3_pourIn : GoodIn wsX1_fillIn (wsV RX1 99 RX3 yX3_pourIn wsX3_pourIn) := goodIn_app (goodIn_of _ (by decide +kernel)) ggX1_fillIn_X3_pourIn
set_option maxRecDepth 20000 in
theorem ggX1_fillIn_X3_amount : GoodIn wsX1_fillIn wsX3_amount := goodIn_r _ [42, 13, 56, 57, 58, 59, 60] (by decide +kernel) (by decide +kernel)
set_option maxRecDepth 20000 in
theorem gX1_fillIn_X3_amount : GoodIn wsX1_fillIn (wsV RX1 103 RX3 yX3_amount wsX3_amount) := goodIn_app (goodIn_of _ (by decide +kernel)) ggX1_fillIn_X3_amount
theorem dX1_fillIn_0 : decode cX1_fillIn 0 = .ok (.iload_n 1, 1) := by decide +kernel
theorem dX1_fillIn_1 : decode cX1_fillIn 1 = .ok (.invokestatic 89, 3) := by decide +kernel
theorem dX1_fillIn_4 : decode cX1_fillIn 4 = .ok (.ifCond .eq 15, 3) := by decide +kernel
theorem dX1_fillIn_7 : decode cX1_fillIn 7 = .ok (.iload_n 2, 1) := by decide +kernel
theorem dX1_fillIn_8 : decode cX1_fillIn 8 = .ok (.iconst 1, 1) := by decide +kernel
theorem dX1_fillIn_9 : decode cX1_fillIn 9 = .ok (.if_icmp .lt 10, 3) := by decide +kernel
theorem dX1_fillIn_12 : decode cX1_fillIn 12 = .ok (.iload_n 2, 1) := by decide +kernel
theorem dX1_fillIn_13 : decode cX1_fillIn 13 = .ok (.sipush 999, 3) := by decide +kernel
theorem dX1_fillIn_16 : decode cX1_fillIn 16 = .ok (.if_icmp .le 6, 3) := by decide +kernel
theorem dX1_fillIn_19 : decode cX1_fillIn 19 = .ok (.ldc 93, 2) := by decide +kernel
theorem dX1_fillIn_21 : decode cX1_fillIn 21 = .ok (.ireturn, 1) := by decide +kernel
theorem dX1_fillIn_22 : decode cX1_fillIn 22 = .ok (.aload_n 0, 1) := by decide +kernel
theorem dX1_fillIn_23 : decode cX1_fillIn 23 = .ok (.getfield 12, 3) := by decide +kernel
theorem dX1_fillIn_26 : decode cX1_fillIn 26 = .ok (.iload_n 1, 1) := by decide +kernel
theorem dX1_fillIn_27 : decode cX1_fillIn 27 = .ok (.iload_n 2, 1) := by decide +kernel
theorem dX1_fillIn_28 : decode cX1_fillIn 28 = .ok (.invokevirtual 94, 3) := by decide +kernel
theorem dX1_fillIn_31 : decode cX1_fillIn 31 = .ok (.ifCond .ne 6, 3) := by decide +kernel
theorem dX1_fillIn_34 : decode cX1_fillIn 34 = .ok (.ldc 98, 2) := by decide +kernel
theorem dX1_fillIn_36 : decode cX1_fillIn 36 = .ok (.ireturn, 1) := by decide +kernel
theorem dX1_fillIn_37 : decode cX1_fillIn 37 = .ok (.aload_n 0, 1) := by decide +kernel
theorem dX1_fillIn_38 : decode cX1_fillIn 38 = .ok (.getfield 12, 3) := by decide +kernel
theorem dX1_fillIn_41 : decode cX1_fillIn 41 = .ok (.iload_n 1, 1) := by decide +kernel
theorem dX1_fillIn_42 : decode cX1_fillIn 42 = .ok (.iload_n 2, 1) := by decide +kernel
theorem dX1_fillIn_43 : decode cX1_fillIn 43 = .ok (.invokevirtual 99, 3) := by decide +kernel
theorem dX1_fillIn_46 : decode cX1_fillIn 46 = .ok (.aload_n 0, 1) := by decide +kernel
theorem dX1_fillIn_47 : decode cX1_fillIn 47 = .ok (.dup, 1) := by decide +kernel
theorem dX1_fillIn_48 : decode cX1_fillIn 48 = .ok (.getfield 74, 3) := by decide +kernel
theorem dX1_fillIn_51 : decode cX1_fillIn 51 = .ok (.iload_n 2, 1) := by decide +kernel
theorem dX1_fillIn_52 : decode cX1_fillIn 52 = .ok (.iadd, 1) := by decide +kernel
theorem dX1_fillIn_53 : decode cX1_fillIn 53 = .ok (.putfield 74, 3) := by decide +kernel
theorem dX1_fillIn_56 : decode cX1_fillIn 56 = .ok (.aload_n 0, 1) := by decide +kernel
theorem dX1_fillIn_57 : decode cX1_fillIn 57 = .ok (.getfield 12, 3) := by decide +kernel
theorem dX1_fillIn_60 : decode cX1_fillIn 60 = .ok (.invokevirtual 103, 3) := by decide +kernel
theorem dX1_fillIn_63 : decode cX1_fillIn 63 = .ok (.ireturn, 1) := by decide +kernel
set_option maxRecDepth 20000 in
theorem ggX1_grindBy_X7_isZeroOrOne : GoodIn wsX1_grindBy wsX7_isZeroOrOne := goodIn_r _ [15] (by decide +kernel) (by decide +kernel)
set_option maxRecDepth 20000 in
theorem gX1_grindBy_X7_isZeroOrOne_n89 : GoodIn wsX1_grindBy (wsX7_isZeroOrOne) := ggX1_grindBy_X7_isZeroOrOne
set_option maxRecDepth 20000 in
theorem ggX1_grindBy_X3_amount : GoodIn wsX1_grindBy wsX3_amount := goodIn_r _ [20, 21, 106, 102, 103, 104, 105] (by decide +kernel) (by decide +kernel)
set_option maxRecDepth 20000 in
theorem gX1_grindBy_X3_amount : GoodIn wsX1_grindBy (wsV RX1 103 RX3 yX3_amount wsX3_amount) := goodIn_app (goodIn_of _ (by decide +kernel)) ggX1_grindBy_X3_amount
set_option maxRecDepth 20000 in
theorem ggX1_grindBy_X1_burrNumbered : GoodIn wsX1_grindBy wsX1_burrNumbered := goodIn_r _ [26, 27, 28, 89, 90, 91, 92, 93, 94, 95, 96, 97, 98, 99, 100, 101] (by decide +kernel) (by decide +kernel)
set_option maxRecDepth 20000 in
theorem gX1_grindBy_X1_burrNumbered : GoodIn wsX1_grindBy (wsV RX1 117 RX1 yX1_burrNumbered wsX1_burrNumbered) := goodIn_app (goodIn_of _ (by decide +kernel)) ggX1_grindBy_X1_burrNumbered
set_option maxRecDepth 20000 in
theorem ggX1_grindBy_X0_gap : GoodIn wsX1_grindBy wsX0_gap := goodIn_r _ [33, 34, 35, 36, 37, 32, 38, 39, 40, 7, 8, 9, 107, 108, 109, 110] (by decide +kernel) (by decide +kernel)
set_option maxRecDepth 20000 in
theorem gX1_grindBy_X0_gap : GoodIn wsX1_grindBy (wsV RX1 121 RX0 yX0_gap wsX0_gap) := goodIn_app (goodIn_of _ (by decide +kernel)) ggX1_grindBy_X0_gap
set_option maxRecDepth 20000 in
theorem ggX1_grindBy_X3_letOut : GoodIn wsX1_grindBy wsX3_letOut := goodIn_r _ [44, 21, 45, 14, 46, 47, 48, 49, 50, 51, 52, 53, 54, 55, 8, 56, 57, 58, 59, 60, 61, 62, 63, 64, 65, 66, 67, 68, 69, 70, 106, 102, 103, 104, 105] (by decide +kernel) (by decide +kernel)
set_option maxRecDepth 20000 in
theorem gX1_grindBy_X3_letOut : GoodIn wsX1_grindBy (wsV RX1 124 RX3 yX3_letOut wsX3_letOut) := goodIn_app (goodIn_of _ (by decide +kernel)) ggX1_grindBy_X3_letOut
set_option maxRecDepth 20000 in
theorem ggX1_grindBy_X0_warmByGrinding : GoodIn wsX1_grindBy wsX0_warmByGrinding := goodIn_r _ [74, 39, 75, 55, 8, 56, 76, 107, 108, 109, 110] (by decide +kernel) (by decide +kernel)
set_option maxRecDepth 20000 in
theorem gX1_grindBy_X0_warmByGrinding : GoodIn wsX1_grindBy (wsV RX1 128 RX0 yX0_warmByGrinding wsX0_warmByGrinding) := goodIn_app (goodIn_of _ (by decide +kernel)) ggX1_grindBy_X0_warmByGrinding
set_option maxRecDepth 20000 in
theorem ggX1_grindBy_X5_letOut : GoodIn wsX1_grindBy wsX5_letOut := goodIn_r _ [51, 52, 53, 54, 55, 8, 56, 57, 58, 59, 60, 61, 50, 62, 63, 64, 65, 66, 67, 68, 69, 70, 102, 103, 104, 105] (by decide +kernel) (by decide +kernel)
set_option maxRecDepth 20000 in
theorem gX1_grindBy_X5_letOut : GoodIn wsX1_grindBy (wsV RX1 131 RX5 yX5_letOut wsX5_letOut) := goodIn_app (goodIn_of _ (by decide +kernel)) ggX1_grindBy_X5_letOut
set_option maxRecDepth 20000 in
theorem ggX1_grindBy_X1_passSeconds : GoodIn wsX1_grindBy wsX1_passSeconds := goodIn_r _ [81, 82, 27, 28, 83, 84, 85, 32, 86, 39, 87, 14, 88, 89, 90, 91, 92, 93, 94, 95, 96, 97, 98, 99, 100, 101, 107, 108, 109, 110] (by decide +kernel) (by decide +kernel)
set_option maxRecDepth 20000 in
theorem gX1_grindBy_X1_passSeconds : GoodIn wsX1_grindBy (wsV RX1 134 RX1 yX1_passSeconds wsX1_passSeconds) := goodIn_app (goodIn_of _ (by decide +kernel)) ggX1_grindBy_X1_passSeconds
theorem dX1_grindBy_0 : decode cX1_grindBy 0 = .ok (.iload_n 1, 1) := by decide +kernel
theorem dX1_grindBy_1 : decode cX1_grindBy 1 = .ok (.invokestatic 89, 3) := by decide +kernel
theorem dX1_grindBy_4 : decode cX1_grindBy 4 = .ok (.ifCond .eq 15, 3) := by decide +kernel
theorem dX1_grindBy_7 : decode cX1_grindBy 7 = .ok (.iload_n 2, 1) := by decide +kernel
theorem dX1_grindBy_8 : decode cX1_grindBy 8 = .ok (.iconst 1, 1) := by decide +kernel
theorem dX1_grindBy_9 : decode cX1_grindBy 9 = .ok (.if_icmp .lt 10, 3) := by decide +kernel
theorem dX1_grindBy_12 : decode cX1_grindBy 12 = .ok (.iload_n 2, 1) := by decide +kernel
theorem dX1_grindBy_13 : decode cX1_grindBy 13 = .ok (.sipush 400, 3) := by decide +kernel
theorem dX1_grindBy_16 : decode cX1_grindBy 16 = .ok (.if_icmp .le 6, 3) := by decide +kernel
theorem dX1_grindBy_19 : decode cX1_grindBy 19 = .ok (.ldc 93, 2) := by decide +kernel
theorem dX1_grindBy_21 : decode cX1_grindBy 21 = .ok (.ireturn, 1) := by decide +kernel
theorem dX1_grindBy_22 : decode cX1_grindBy 22 = .ok (.aload_n 0, 1) := by decide +kernel
theorem dX1_grindBy_23 : decode cX1_grindBy 23 = .ok (.getfield 12, 3) := by decide +kernel
theorem dX1_grindBy_26 : decode cX1_grindBy 26 = .ok (.invokevirtual 103, 3) := by decide +kernel
theorem dX1_grindBy_29 : decode cX1_grindBy 29 = .ok (.iload_n 2, 1) := by decide +kernel
theorem dX1_grindBy_30 : decode cX1_grindBy 30 = .ok (.if_icmp .ge 6, 3) := by decide +kernel
theorem dX1_grindBy_33 : decode cX1_grindBy 33 = .ok (.ldc 107, 2) := by decide +kernel
theorem dX1_grindBy_35 : decode cX1_grindBy 35 = .ok (.ireturn, 1) := by decide +kernel
theorem dX1_grindBy_36 : decode cX1_grindBy 36 = .ok (.iconst 0, 1) := by decide +kernel
theorem dX1_grindBy_37 : decode cX1_grindBy 37 = .ok (.aload_n 0, 1) := by decide +kernel
theorem dX1_grindBy_38 : decode cX1_grindBy 38 = .ok (.getfield 33, 3) := by decide +kernel
theorem dX1_grindBy_41 : decode cX1_grindBy 41 = .ok (.getfield 108, 3) := by decide +kernel
theorem dX1_grindBy_44 : decode cX1_grindBy 44 = .ok (.iload_n 2, 1) := by decide +kernel
theorem dX1_grindBy_45 : decode cX1_grindBy 45 = .ok (.iadd, 1) := by decide +kernel
theorem dX1_grindBy_46 : decode cX1_grindBy 46 = .ok (.aload_n 0, 1) := by decide +kernel
theorem dX1_grindBy_47 : decode cX1_grindBy 47 = .ok (.getfield 47, 3) := by decide +kernel
theorem dX1_grindBy_50 : decode cX1_grindBy 50 = .ok (.iconst 2, 1) := by decide +kernel
theorem dX1_grindBy_51 : decode cX1_grindBy 51 = .ok (.iaload, 1) := by decide +kernel
theorem dX1_grindBy_52 : decode cX1_grindBy 52 = .ok (.isub, 1) := by decide +kernel
theorem dX1_grindBy_53 : decode cX1_grindBy 53 = .ok (.invokestatic 111, 3) := by decide +kernel
theorem dX1_grindBy_56 : decode cX1_grindBy 56 = .ok (.istore_n 3, 1) := by decide +kernel
theorem dX1_grindBy_57 : decode cX1_grindBy 57 = .ok (.aload_n 0, 1) := by decide +kernel
theorem dX1_grindBy_58 : decode cX1_grindBy 58 = .ok (.getfield 37, 3) := by decide +kernel
theorem dX1_grindBy_61 : decode cX1_grindBy 61 = .ok (.getfield 108, 3) := by decide +kernel
theorem dX1_grindBy_64 : decode cX1_grindBy 64 = .ok (.iload_n 3, 1) := by decide +kernel
theorem dX1_grindBy_65 : decode cX1_grindBy 65 = .ok (.iadd, 1) := by decide +kernel
theorem dX1_grindBy_66 : decode cX1_grindBy 66 = .ok (.sipush 400, 3) := by decide +kernel
theorem dX1_grindBy_69 : decode cX1_grindBy 69 = .ok (.if_icmp .le 6, 3) := by decide +kernel
theorem dX1_grindBy_72 : decode cX1_grindBy 72 = .ok (.ldc 98, 2) := by decide +kernel
theorem dX1_grindBy_74 : decode cX1_grindBy 74 = .ok (.ireturn, 1) := by decide +kernel
theorem dX1_grindBy_75 : decode cX1_grindBy 75 = .ok (.aload_n 0, 1) := by decide +kernel
theorem dX1_grindBy_76 : decode cX1_grindBy 76 = .ok (.iload_n 1, 1) := by decide +kernel
theorem dX1_grindBy_77 : decode cX1_grindBy 77 = .ok (.invokevirtual 117, 3) := by decide +kernel
theorem dX1_grindBy_80 : decode cX1_grindBy 80 = .ok (.astore 4, 2) := by decide +kernel
theorem dX1_grindBy_82 : decode cX1_grindBy 82 = .ok (.aload_n 0, 1) := by decide +kernel
theorem dX1_grindBy_83 : decode cX1_grindBy 83 = .ok (.getfield 12, 3) := by decide +kernel
theorem dX1_grindBy_86 : decode cX1_grindBy 86 = .ok (.iload_n 2, 1) := by decide +kernel
theorem dX1_grindBy_87 : decode cX1_grindBy 87 = .ok (.iload_n 1, 1) := by decide +kernel
theorem dX1_grindBy_88 : decode cX1_grindBy 88 = .ok (.aload 4, 2) := by decide +kernel
theorem dX1_grindBy_90 : decode cX1_grindBy 90 = .ok (.invokevirtual 121, 3) := by decide +kernel
theorem dX1_grindBy_93 : decode cX1_grindBy 93 = .ok (.aload_n 0, 1) := by decide +kernel
theorem dX1_grindBy_94 : decode cX1_grindBy 94 = .ok (.getfield 33, 3) := by decide +kernel
theorem dX1_grindBy_97 : decode cX1_grindBy 97 = .ok (.invokevirtual 124, 3) := by decide +kernel
theorem dX1_grindBy_100 : decode cX1_grindBy 100 = .ok (.aload 4, 2) := by decide +kernel
theorem dX1_grindBy_102 : decode cX1_grindBy 102 = .ok (.iload_n 2, 1) := by decide +kernel
theorem dX1_grindBy_103 : decode cX1_grindBy 103 = .ok (.invokevirtual 128, 3) := by decide +kernel
theorem dX1_grindBy_106 : decode cX1_grindBy 106 = .ok (.aload_n 0, 1) := by decide +kernel
theorem dX1_grindBy_107 : decode cX1_grindBy 107 = .ok (.getfield 33, 3) := by decide +kernel
theorem dX1_grindBy_110 : decode cX1_grindBy 110 = .ok (.iload_n 3, 1) := by decide +kernel
theorem dX1_grindBy_111 : decode cX1_grindBy 111 = .ok (.iconst 0, 1) := by decide +kernel
theorem dX1_grindBy_112 : decode cX1_grindBy 112 = .ok (.aload_n 0, 1) := by decide +kernel
theorem dX1_grindBy_113 : decode cX1_grindBy 113 = .ok (.getfield 37, 3) := by decide +kernel
theorem dX1_grindBy_116 : decode cX1_grindBy 116 = .ok (.invokevirtual 131, 3) := by decide +kernel
theorem dX1_grindBy_119 : decode cX1_grindBy 119 = .ok (.aload_n 0, 1) := by decide +kernel
theorem dX1_grindBy_120 : decode cX1_grindBy 120 = .ok (.dup, 1) := by decide +kernel
theorem dX1_grindBy_121 : decode cX1_grindBy 121 = .ok (.getfield 77, 3) := by decide +kernel
theorem dX1_grindBy_124 : decode cX1_grindBy 124 = .ok (.iload_n 2, 1) := by decide +kernel
theorem dX1_grindBy_125 : decode cX1_grindBy 125 = .ok (.iadd, 1) := by decide +kernel
theorem dX1_grindBy_126 : decode cX1_grindBy 126 = .ok (.putfield 77, 3) := by decide +kernel
theorem dX1_grindBy_129 : decode cX1_grindBy 129 = .ok (.aload_n 0, 1) := by decide +kernel
theorem dX1_grindBy_130 : decode cX1_grindBy 130 = .ok (.iload_n 2, 1) := by decide +kernel
theorem dX1_grindBy_131 : decode cX1_grindBy 131 = .ok (.bipush 9, 2) := by decide +kernel
theorem dX1_grindBy_133 : decode cX1_grindBy 133 = .ok (.iadd, 1) := by decide +kernel
theorem dX1_grindBy_134 : decode cX1_grindBy 134 = .ok (.bipush 10, 2) := by decide +kernel
theorem dX1_grindBy_136 : decode cX1_grindBy 136 = .ok (.idiv, 1) := by decide +kernel
theorem dX1_grindBy_137 : decode cX1_grindBy 137 = .ok (.invokevirtual 134, 3) := by decide +kernel
theorem dX1_grindBy_140 : decode cX1_grindBy 140 = .ok (.iload_n 3, 1) := by decide +kernel
theorem dX1_grindBy_141 : decode cX1_grindBy 141 = .ok (.ireturn, 1) := by decide +kernel
set_option maxRecDepth 20000 in
theorem ggX1_turnDial_X7_isZeroOrOne : GoodIn wsX1_turnDial wsX7_isZeroOrOne := goodIn_r _ [4] (by decide +kernel) (by decide +kernel)
set_option maxRecDepth 20000 in
theorem gX1_turnDial_X7_isZeroOrOne_n89 : GoodIn wsX1_turnDial (wsX7_isZeroOrOne) := ggX1_turnDial_X7_isZeroOrOne
set_option maxRecDepth 20000 in
theorem ggX1_turnDial_X1_burrNumbered : GoodIn wsX1_turnDial wsX1_burrNumbered := goodIn_r _ [9, 10, 11, 16, 17, 18, 19, 20, 21, 22, 23, 24, 25, 26, 27, 28] (by decide +kernel) (by decide +kernel)
set_option maxRecDepth 20000 in
theorem gX1_turnDial_X1_burrNumbered : GoodIn wsX1_turnDial (wsV RX1 117 RX1 yX1_burrNumbered wsX1_burrNumbered) := goodIn_app (goodIn_of _ (by decide +kernel)) ggX1_turnDial_X1_burrNumbered
theorem dX1_turnDial_0 : decode cX1_turnDial 0 = .ok (.iload_n 1, 1) := by decide +kernel
theorem dX1_turnDial_1 : decode cX1_turnDial 1 = .ok (.invokestatic 89, 3) := by decide +kernel
theorem dX1_turnDial_4 : decode cX1_turnDial 4 = .ok (.ifCond .eq 14, 3) := by decide +kernel
theorem dX1_turnDial_7 : decode cX1_turnDial 7 = .ok (.iload_n 2, 1) := by decide +kernel
theorem dX1_turnDial_8 : decode cX1_turnDial 8 = .ok (.iconst 1, 1) := by decide +kernel
theorem dX1_turnDial_9 : decode cX1_turnDial 9 = .ok (.if_icmp .lt 9, 3) := by decide +kernel
theorem dX1_turnDial_12 : decode cX1_turnDial 12 = .ok (.iload_n 2, 1) := by decide +kernel
theorem dX1_turnDial_13 : decode cX1_turnDial 13 = .ok (.bipush 60, 2) := by decide +kernel
theorem dX1_turnDial_15 : decode cX1_turnDial 15 = .ok (.if_icmp .le 6, 3) := by decide +kernel
theorem dX1_turnDial_18 : decode cX1_turnDial 18 = .ok (.ldc 93, 2) := by decide +kernel
theorem dX1_turnDial_20 : decode cX1_turnDial 20 = .ok (.ireturn, 1) := by decide +kernel
theorem dX1_turnDial_21 : decode cX1_turnDial 21 = .ok (.aload_n 0, 1) := by decide +kernel
theorem dX1_turnDial_22 : decode cX1_turnDial 22 = .ok (.iload_n 1, 1) := by decide +kernel
theorem dX1_turnDial_23 : decode cX1_turnDial 23 = .ok (.invokevirtual 117, 3) := by decide +kernel
theorem dX1_turnDial_26 : decode cX1_turnDial 26 = .ok (.astore_n 3, 1) := by decide +kernel
theorem dX1_turnDial_27 : decode cX1_turnDial 27 = .ok (.aload_n 3, 1) := by decide +kernel
theorem dX1_turnDial_28 : decode cX1_turnDial 28 = .ok (.getfield 137, 3) := by decide +kernel
theorem dX1_turnDial_31 : decode cX1_turnDial 31 = .ok (.istore 4, 2) := by decide +kernel
theorem dX1_turnDial_33 : decode cX1_turnDial 33 = .ok (.aload_n 3, 1) := by decide +kernel
theorem dX1_turnDial_34 : decode cX1_turnDial 34 = .ok (.iload_n 2, 1) := by decide +kernel
theorem dX1_turnDial_35 : decode cX1_turnDial 35 = .ok (.putfield 137, 3) := by decide +kernel
theorem dX1_turnDial_38 : decode cX1_turnDial 38 = .ok (.iload 4, 2) := by decide +kernel
theorem dX1_turnDial_40 : decode cX1_turnDial 40 = .ok (.ireturn, 1) := by decide +kernel
set_option maxRecDepth 20000 in
theorem ggX1_letPass_X1_passSeconds : GoodIn wsX1_letPass wsX1_passSeconds := goodIn_r _ [8, 9, 2, 3, 10, 11, 12, 13, 14, 15, 16, 17, 18, 19, 20, 21, 22, 23, 24, 25, 26, 27, 28, 29, 30, 31, 32, 33, 34, 35] (by decide +kernel) (by decide +kernel)
set_option maxRecDepth 20000 in
theorem gX1_letPass_X1_passSeconds : GoodIn wsX1_letPass (wsV RX1 134 RX1 yX1_passSeconds wsX1_passSeconds) := goodIn_app (goodIn_of _ (by decide +kernel)) ggX1_letPass_X1_passSeconds
theorem dX1_letPass_0 : decode cX1_letPass 0 = .ok (.iload_n 1, 1) := by decide +kernel
theorem dX1_letPass_1 : decode cX1_letPass 1 = .ok (.iconst 1, 1) := by decide +kernel
theorem dX1_letPass_2 : decode cX1_letPass 2 = .ok (.if_icmp .lt 10, 3) := by decide +kernel
theorem dX1_letPass_5 : decode cX1_letPass 5 = .ok (.iload_n 1, 1) := by decide +kernel
theorem dX1_letPass_6 : decode cX1_letPass 6 = .ok (.sipush 999, 3) := by decide +kernel
theorem dX1_letPass_9 : decode cX1_letPass 9 = .ok (.if_icmp .le 6, 3) := by decide +kernel
theorem dX1_letPass_12 : decode cX1_letPass 12 = .ok (.ldc 93, 2) := by decide +kernel
theorem dX1_letPass_14 : decode cX1_letPass 14 = .ok (.ireturn, 1) := by decide +kernel
theorem dX1_letPass_15 : decode cX1_letPass 15 = .ok (.aload_n 0, 1) := by decide +kernel
theorem dX1_letPass_16 : decode cX1_letPass 16 = .ok (.getfield 21, 3) := by decide +kernel
theorem dX1_letPass_19 : decode cX1_letPass 19 = .ok (.getfield 140, 3) := by decide +kernel
theorem dX1_letPass_22 : decode cX1_letPass 22 = .ok (.aload_n 0, 1) := by decide +kernel
theorem dX1_letPass_23 : decode cX1_letPass 23 = .ok (.getfield 25, 3) := by decide +kernel
theorem dX1_letPass_26 : decode cX1_letPass 26 = .ok (.getfield 140, 3) := by decide +kernel
theorem dX1_letPass_29 : decode cX1_letPass 29 = .ok (.iadd, 1) := by decide +kernel
theorem dX1_letPass_30 : decode cX1_letPass 30 = .ok (.istore_n 2, 1) := by decide +kernel
theorem dX1_letPass_31 : decode cX1_letPass 31 = .ok (.aload_n 0, 1) := by decide +kernel
theorem dX1_letPass_32 : decode cX1_letPass 32 = .ok (.iload_n 1, 1) := by decide +kernel
theorem dX1_letPass_33 : decode cX1_letPass 33 = .ok (.invokevirtual 134, 3) := by decide +kernel
theorem dX1_letPass_36 : decode cX1_letPass 36 = .ok (.iload_n 2, 1) := by decide +kernel
theorem dX1_letPass_37 : decode cX1_letPass 37 = .ok (.aload_n 0, 1) := by decide +kernel
theorem dX1_letPass_38 : decode cX1_letPass 38 = .ok (.getfield 21, 3) := by decide +kernel
theorem dX1_letPass_41 : decode cX1_letPass 41 = .ok (.getfield 140, 3) := by decide +kernel
theorem dX1_letPass_44 : decode cX1_letPass 44 = .ok (.isub, 1) := by decide +kernel
theorem dX1_letPass_45 : decode cX1_letPass 45 = .ok (.aload_n 0, 1) := by decide +kernel
theorem dX1_letPass_46 : decode cX1_letPass 46 = .ok (.getfield 25, 3) := by decide +kernel
theorem dX1_letPass_49 : decode cX1_letPass 49 = .ok (.getfield 140, 3) := by decide +kernel
theorem dX1_letPass_52 : decode cX1_letPass 52 = .ok (.isub, 1) := by decide +kernel
theorem dX1_letPass_53 : decode cX1_letPass 53 = .ok (.ireturn, 1) := by decide +kernel
set_option maxRecDepth 20000 in
theorem ggX1_passSeconds_X0_cool : GoodIn wsX1_passSeconds wsX0_cool := goodIn_r _ [8, 9, 10, 11, 12, 26, 27, 28, 29] (by decide +kernel) (by decide +kernel)
set_option maxRecDepth 20000 in
theorem gX1_passSeconds_X0_cool : GoodIn wsX1_passSeconds (wsV RX1 143 RX0 yX0_cool wsX0_cool) := goodIn_app (goodIn_of _ (by decide +kernel)) ggX1_passSeconds_X0_cool
theorem dX1_passSeconds_0 : decode cX1_passSeconds 0 = .ok (.aload_n 0, 1) := by decide +kernel
theorem dX1_passSeconds_1 : decode cX1_passSeconds 1 = .ok (.getfield 70, 3) := by decide +kernel
theorem dX1_passSeconds_4 : decode cX1_passSeconds 4 = .ok (.iload_n 1, 1) := by decide +kernel
theorem dX1_passSeconds_5 : decode cX1_passSeconds 5 = .ok (.iadd, 1) := by decide +kernel
theorem dX1_passSeconds_6 : decode cX1_passSeconds 6 = .ok (.bipush 10, 2) := by decide +kernel
theorem dX1_passSeconds_8 : decode cX1_passSeconds 8 = .ok (.idiv, 1) := by decide +kernel
theorem dX1_passSeconds_9 : decode cX1_passSeconds 9 = .ok (.aload_n 0, 1) := by decide +kernel
theorem dX1_passSeconds_10 : decode cX1_passSeconds 10 = .ok (.getfield 70, 3) := by decide +kernel
theorem dX1_passSeconds_13 : decode cX1_passSeconds 13 = .ok (.bipush 10, 2) := by decide +kernel
theorem dX1_passSeconds_15 : decode cX1_passSeconds 15 = .ok (.idiv, 1) := by decide +kernel
theorem dX1_passSeconds_16 : decode cX1_passSeconds 16 = .ok (.isub, 1) := by decide +kernel
theorem dX1_passSeconds_17 : decode cX1_passSeconds 17 = .ok (.istore_n 2, 1) := by decide +kernel
theorem dX1_passSeconds_18 : decode cX1_passSeconds 18 = .ok (.aload_n 0, 1) := by decide +kernel
theorem dX1_passSeconds_19 : decode cX1_passSeconds 19 = .ok (.getfield 21, 3) := by decide +kernel
theorem dX1_passSeconds_22 : decode cX1_passSeconds 22 = .ok (.iload_n 2, 1) := by decide +kernel
theorem dX1_passSeconds_23 : decode cX1_passSeconds 23 = .ok (.invokevirtual 143, 3) := by decide +kernel
theorem dX1_passSeconds_26 : decode cX1_passSeconds 26 = .ok (.aload_n 0, 1) := by decide +kernel
theorem dX1_passSeconds_27 : decode cX1_passSeconds 27 = .ok (.getfield 25, 3) := by decide +kernel
theorem dX1_passSeconds_30 : decode cX1_passSeconds 30 = .ok (.iload_n 2, 1) := by decide +kernel
theorem dX1_passSeconds_31 : decode cX1_passSeconds 31 = .ok (.invokevirtual 143, 3) := by decide +kernel
theorem dX1_passSeconds_34 : decode cX1_passSeconds 34 = .ok (.aload_n 0, 1) := by decide +kernel
theorem dX1_passSeconds_35 : decode cX1_passSeconds 35 = .ok (.dup, 1) := by decide +kernel
theorem dX1_passSeconds_36 : decode cX1_passSeconds 36 = .ok (.getfield 70, 3) := by decide +kernel
theorem dX1_passSeconds_39 : decode cX1_passSeconds 39 = .ok (.iload_n 1, 1) := by decide +kernel
theorem dX1_passSeconds_40 : decode cX1_passSeconds 40 = .ok (.iadd, 1) := by decide +kernel
theorem dX1_passSeconds_41 : decode cX1_passSeconds 41 = .ok (.putfield 70, 3) := by decide +kernel
theorem dX1_passSeconds_44 : decode cX1_passSeconds 44 = .ok (.return_, 1) := by decide +kernel
set_option maxRecDepth 20000 in
theorem ggX1_makeShot_X1_timeOfBasket : GoodIn wsX1_makeShot wsX1_timeOfBasket := goodIn_r _ [9, 1, 10, 11, 12, 13, 14, 15, 16, 17, 18, 19, 20, 21, 22, 23, 24, 25, 8, 26, 27, 28, 29, 30, 31, 32, 33, 34, 35, 36, 37, 38, 100, 101, 102, 103, 104, 105, 106, 107, 108, 109, 110, 111, 112, 113, 114, 115, 116] (by decide +kernel) (by decide +kernel)
set_option maxRecDepth 20000 in
theorem gX1_makeShot_X1_timeOfBasket : GoodIn wsX1_makeShot (wsV RX1 146 RX1 yX1_timeOfBasket wsX1_timeOfBasket) := goodIn_app (goodIn_of _ (by decide +kernel)) ggX1_makeShot_X1_timeOfBasket
set_option maxRecDepth 20000 in
theorem ggX1_makeShot_X5_isMostly : GoodIn wsX1_makeShot wsX5_isMostly := goodIn_r _ [42, 16, 22, 17, 43, 113, 114, 115, 116] (by decide +kernel) (by decide +kernel)
set_option maxRecDepth 20000 in
theorem gX1_makeShot_X5_isMostly : GoodIn wsX1_makeShot (wsV RX1 149 RX5 yX5_isMostly wsX5_isMostly) := goodIn_app (goodIn_of _ (by decide +kernel)) ggX1_makeShot_X5_isMostly
set_option maxRecDepth 20000 in
theorem ggX1_makeShot_X6_add : GoodIn wsX1_makeShot wsX6_add := goodIn_r _ [48, 49, 50, 51, 52, 53, 54, 55, 56, 57, 58, 59, 117, 118, 119] (by decide +kernel) (by decide +kernel)
set_option maxRecDepth 20000 in
theorem gX1_makeShot_X6_add : GoodIn wsX1_makeShot (wsV RX1 155 RX6 yX6_add wsX6_add) := goodIn_app (goodIn_of _ (by decide +kernel)) ggX1_makeShot_X6_add
set_option maxRecDepth 20000 in
theorem ggX1_makeShot_X5_clear : GoodIn wsX1_makeShot wsX5_clear := goodIn_r _ [63, 16, 43, 113, 114, 115, 116] (by decide +kernel) (by decide +kernel)
set_option maxRecDepth 20000 in
theorem gX1_makeShot_X5_clear : GoodIn wsX1_makeShot (wsV RX1 159 RX5 yX5_clear wsX5_clear) := goodIn_app (goodIn_of _ (by decide +kernel)) ggX1_makeShot_X5_clear
set_option maxRecDepth 20000 in
theorem ggX1_makeShot_X1_burrNumbered : GoodIn wsX1_makeShot wsX1_burrNumbered := goodIn_r _ [67, 68, 69, 100, 101, 102, 103, 104, 105, 106, 107, 108, 109, 110, 111, 112] (by decide +kernel) (by decide +kernel)
set_option maxRecDepth 20000 in
theorem gX1_makeShot_X1_burrNumbered : GoodIn wsX1_makeShot (wsV RX1 117 RX1 yX1_burrNumbered wsX1_burrNumbered) := goodIn_app (goodIn_of _ (by decide +kernel)) ggX1_makeShot_X1_burrNumbered
set_option maxRecDepth 20000 in
theorem ggX1_makeShot_X1_judge : GoodIn wsX1_makeShot wsX1_judge := goodIn_r _ [73, 34, 74, 75, 58, 76, 77, 78, 79, 80, 81, 82, 83, 84, 85, 86, 87, 57, 59, 88, 100, 101, 102, 103, 104, 105, 106, 107, 108, 109, 110, 111, 112, 120, 121, 122, 123] (by decide +kernel) (by decide +kernel)
set_option maxRecDepth 20000 in
theorem gX1_makeShot_X1_judge : GoodIn wsX1_makeShot (wsV RX1 162 RX1 yX1_judge wsX1_judge) := goodIn_app (goodIn_of _ (by decide +kernel)) ggX1_makeShot_X1_judge
set_option maxRecDepth 20000 in
theorem ggX1_makeShot_X1_passSeconds : GoodIn wsX1_makeShot wsX1_passSeconds := goodIn_r _ [92, 3, 68, 69, 93, 94, 95, 81, 96, 97, 98, 28, 99, 100, 101, 102, 103, 104, 105, 106, 107, 108, 109, 110, 111, 112, 120, 121, 122, 123] (by decide +kernel) (by decide +kernel)
set_option maxRecDepth 20000 in
theorem gX1_makeShot_X1_passSeconds : GoodIn wsX1_makeShot (wsV RX1 134 RX1 yX1_passSeconds wsX1_passSeconds) := goodIn_app (goodIn_of _ (by decide +kernel)) ggX1_makeShot_X1_passSeconds
theorem dX1_makeShot_0 : decode cX1_makeShot 0 = .ok (.aload_n 0, 1) := by decide +kernel
theorem dX1_makeShot_1 : decode cX1_makeShot 1 = .ok (.invokevirtual 146, 3) := by decide +kernel
theorem dX1_makeShot_4 : decode cX1_makeShot 4 = .ok (.istore_n 1, 1) := by decide +kernel
theorem dX1_makeShot_5 : decode cX1_makeShot 5 = .ok (.iload_n 1, 1) := by decide +kernel
theorem dX1_makeShot_6 : decode cX1_makeShot 6 = .ok (.ifCond .ge 5, 3) := by decide +kernel
theorem dX1_makeShot_9 : decode cX1_makeShot 9 = .ok (.iload_n 1, 1) := by decide +kernel
theorem dX1_makeShot_10 : decode cX1_makeShot 10 = .ok (.ireturn, 1) := by decide +kernel
theorem dX1_makeShot_11 : decode cX1_makeShot 11 = .ok (.aload_n 0, 1) := by decide +kernel
theorem dX1_makeShot_12 : decode cX1_makeShot 12 = .ok (.getfield 37, 3) := by decide +kernel
theorem dX1_makeShot_15 : decode cX1_makeShot 15 = .ok (.iconst 2, 1) := by decide +kernel
theorem dX1_makeShot_16 : decode cX1_makeShot 16 = .ok (.invokevirtual 149, 3) := by decide +kernel
theorem dX1_makeShot_19 : decode cX1_makeShot 19 = .ok (.ifCond .eq 7, 3) := by decide +kernel
theorem dX1_makeShot_22 : decode cX1_makeShot 22 = .ok (.iconst 1, 1) := by decide +kernel
theorem dX1_makeShot_23 : decode cX1_makeShot 23 = .ok (.goto 4, 3) := by decide +kernel
theorem dX1_makeShot_26 : decode cX1_makeShot 26 = .ok (.iconst 0, 1) := by decide +kernel
theorem dX1_makeShot_27 : decode cX1_makeShot 27 = .ok (.istore_n 2, 1) := by decide +kernel
theorem dX1_makeShot_28 : decode cX1_makeShot 28 = .ok (.aload_n 0, 1) := by decide +kernel
theorem dX1_makeShot_29 : decode cX1_makeShot 29 = .ok (.getfield 37, 3) := by decide +kernel
theorem dX1_makeShot_32 : decode cX1_makeShot 32 = .ok (.iconst 1, 1) := by decide +kernel
theorem dX1_makeShot_33 : decode cX1_makeShot 33 = .ok (.invokevirtual 149, 3) := by decide +kernel
theorem dX1_makeShot_36 : decode cX1_makeShot 36 = .ok (.ifCond .eq 7, 3) := by decide +kernel
theorem dX1_makeShot_39 : decode cX1_makeShot 39 = .ok (.iconst 1, 1) := by decide +kernel
theorem dX1_makeShot_40 : decode cX1_makeShot 40 = .ok (.goto 4, 3) := by decide +kernel
theorem dX1_makeShot_43 : decode cX1_makeShot 43 = .ok (.iconst 0, 1) := by decide +kernel
theorem dX1_makeShot_44 : decode cX1_makeShot 44 = .ok (.istore_n 3, 1) := by decide +kernel
theorem dX1_makeShot_45 : decode cX1_makeShot 45 = .ok (.aload_n 0, 1) := by decide +kernel
theorem dX1_makeShot_46 : decode cX1_makeShot 46 = .ok (.getfield 43, 3) := by decide +kernel
theorem dX1_makeShot_49 : decode cX1_makeShot 49 = .ok (.iload_n 1, 1) := by decide +kernel
theorem dX1_makeShot_50 : decode cX1_makeShot 50 = .ok (.aload_n 0, 1) := by decide +kernel
theorem dX1_makeShot_51 : decode cX1_makeShot 51 = .ok (.getfield 37, 3) := by decide +kernel
theorem dX1_makeShot_54 : decode cX1_makeShot 54 = .ok (.getfield 108, 3) := by decide +kernel
theorem dX1_makeShot_57 : decode cX1_makeShot 57 = .ok (.iload_n 2, 1) := by decide +kernel
theorem dX1_makeShot_58 : decode cX1_makeShot 58 = .ok (.iload_n 3, 1) := by decide +kernel
theorem dX1_makeShot_59 : decode cX1_makeShot 59 = .ok (.aload_n 0, 1) := by decide +kernel
theorem dX1_makeShot_60 : decode cX1_makeShot 60 = .ok (.getfield 70, 3) := by decide +kernel
theorem dX1_makeShot_63 : decode cX1_makeShot 63 = .ok (.aload_n 0, 1) := by decide +kernel
theorem dX1_makeShot_64 : decode cX1_makeShot 64 = .ok (.getfield 37, 3) := by decide +kernel
theorem dX1_makeShot_67 : decode cX1_makeShot 67 = .ok (.getfield 152, 3) := by decide +kernel
theorem dX1_makeShot_70 : decode cX1_makeShot 70 = .ok (.invokevirtual 155, 3) := by decide +kernel
theorem dX1_makeShot_73 : decode cX1_makeShot 73 = .ok (.aload_n 0, 1) := by decide +kernel
theorem dX1_makeShot_74 : decode cX1_makeShot 74 = .ok (.dup, 1) := by decide +kernel
theorem dX1_makeShot_75 : decode cX1_makeShot 75 = .ok (.getfield 80, 3) := by decide +kernel
theorem dX1_makeShot_78 : decode cX1_makeShot 78 = .ok (.aload_n 0, 1) := by decide +kernel
theorem dX1_makeShot_79 : decode cX1_makeShot 79 = .ok (.getfield 37, 3) := by decide +kernel
theorem dX1_makeShot_82 : decode cX1_makeShot 82 = .ok (.getfield 108, 3) := by decide +kernel
theorem dX1_makeShot_85 : decode cX1_makeShot 85 = .ok (.iadd, 1) := by decide +kernel
theorem dX1_makeShot_86 : decode cX1_makeShot 86 = .ok (.putfield 80, 3) := by decide +kernel
theorem dX1_makeShot_89 : decode cX1_makeShot 89 = .ok (.aload_n 0, 1) := by decide +kernel
theorem dX1_makeShot_90 : decode cX1_makeShot 90 = .ok (.getfield 37, 3) := by decide +kernel
theorem dX1_makeShot_93 : decode cX1_makeShot 93 = .ok (.invokevirtual 159, 3) := by decide +kernel
theorem dX1_makeShot_96 : decode cX1_makeShot 96 = .ok (.aload_n 0, 1) := by decide +kernel
theorem dX1_makeShot_97 : decode cX1_makeShot 97 = .ok (.iload_n 1, 1) := by decide +kernel
theorem dX1_makeShot_98 : decode cX1_makeShot 98 = .ok (.aload_n 0, 1) := by decide +kernel
theorem dX1_makeShot_99 : decode cX1_makeShot 99 = .ok (.iload_n 2, 1) := by decide +kernel
theorem dX1_makeShot_100 : decode cX1_makeShot 100 = .ok (.invokevirtual 117, 3) := by decide +kernel
theorem dX1_makeShot_103 : decode cX1_makeShot 103 = .ok (.invokevirtual 162, 3) := by decide +kernel
theorem dX1_makeShot_106 : decode cX1_makeShot 106 = .ok (.aload_n 0, 1) := by decide +kernel
theorem dX1_makeShot_107 : decode cX1_makeShot 107 = .ok (.iload_n 1, 1) := by decide +kernel
theorem dX1_makeShot_108 : decode cX1_makeShot 108 = .ok (.bipush 10, 2) := by decide +kernel
theorem dX1_makeShot_110 : decode cX1_makeShot 110 = .ok (.idiv, 1) := by decide +kernel
theorem dX1_makeShot_111 : decode cX1_makeShot 111 = .ok (.invokevirtual 134, 3) := by decide +kernel
theorem dX1_makeShot_114 : decode cX1_makeShot 114 = .ok (.iload_n 1, 1) := by decide +kernel
theorem dX1_makeShot_115 : decode cX1_makeShot 115 = .ok (.ireturn, 1) := by decide +kernel
set_option maxRecDepth 20000 in
theorem ggX1_judge_X0_correctBy : GoodIn wsX1_judge wsX0_correctBy := goodIn_r _ [11, 12, 13, 14, 4, 15, 16, 17, 18, 19, 33, 34, 35, 36] (by decide +kernel) (by decide +kernel)
set_option maxRecDepth 20000 in
theorem gX1_judge_X0_correctBy : GoodIn wsX1_judge (wsV RX1 170 RX0 yX0_correctBy wsX0_correctBy) := goodIn_app (goodIn_of _ (by decide +kernel)) ggX1_judge_X0_correctBy
theorem dX1_judge_0 : decode cX1_judge 0 = .ok (.iload_n 1, 1) := by decide +kernel
theorem dX1_judge_1 : decode cX1_judge 1 = .ok (.aload_n 0, 1) := by decide +kernel
theorem dX1_judge_2 : decode cX1_judge 2 = .ok (.getfield 47, 3) := by decide +kernel
theorem dX1_judge_5 : decode cX1_judge 5 = .ok (.iconst 0, 1) := by decide +kernel
theorem dX1_judge_6 : decode cX1_judge 6 = .ok (.iaload, 1) := by decide +kernel
theorem dX1_judge_7 : decode cX1_judge 7 = .ok (.isub, 1) := by decide +kernel
theorem dX1_judge_8 : decode cX1_judge 8 = .ok (.invokestatic 166, 3) := by decide +kernel
theorem dX1_judge_11 : decode cX1_judge 11 = .ok (.aload_n 0, 1) := by decide +kernel
theorem dX1_judge_12 : decode cX1_judge 12 = .ok (.getfield 47, 3) := by decide +kernel
theorem dX1_judge_15 : decode cX1_judge 15 = .ok (.iconst 1, 1) := by decide +kernel
theorem dX1_judge_16 : decode cX1_judge 16 = .ok (.iaload, 1) := by decide +kernel
theorem dX1_judge_17 : decode cX1_judge 17 = .ok (.if_icmp .gt 16, 3) := by decide +kernel
theorem dX1_judge_20 : decode cX1_judge 20 = .ok (.aload_n 0, 1) := by decide +kernel
theorem dX1_judge_21 : decode cX1_judge 21 = .ok (.dup, 1) := by decide +kernel
theorem dX1_judge_22 : decode cX1_judge 22 = .ok (.getfield 86, 3) := by decide +kernel
theorem dX1_judge_25 : decode cX1_judge 25 = .ok (.iconst 1, 1) := by decide +kernel
theorem dX1_judge_26 : decode cX1_judge 26 = .ok (.iadd, 1) := by decide +kernel
theorem dX1_judge_27 : decode cX1_judge 27 = .ok (.putfield 86, 3) := by decide +kernel
theorem dX1_judge_30 : decode cX1_judge 30 = .ok (.goto 24, 3) := by decide +kernel
theorem dX1_judge_33 : decode cX1_judge 33 = .ok (.aload_n 0, 1) := by decide +kernel
theorem dX1_judge_34 : decode cX1_judge 34 = .ok (.getfield 47, 3) := by decide +kernel
theorem dX1_judge_37 : decode cX1_judge 37 = .ok (.iconst 5, 1) := by decide +kernel
theorem dX1_judge_38 : decode cX1_judge 38 = .ok (.iaload, 1) := by decide +kernel
theorem dX1_judge_39 : decode cX1_judge 39 = .ok (.iconst 1, 1) := by decide +kernel
theorem dX1_judge_40 : decode cX1_judge 40 = .ok (.if_icmp .ne 14, 3) := by decide +kernel
theorem dX1_judge_43 : decode cX1_judge 43 = .ok (.aload_n 2, 1) := by decide +kernel
theorem dX1_judge_44 : decode cX1_judge 44 = .ok (.iload_n 1, 1) := by decide +kernel
theorem dX1_judge_45 : decode cX1_judge 45 = .ok (.aload_n 0, 1) := by decide +kernel
theorem dX1_judge_46 : decode cX1_judge 46 = .ok (.getfield 47, 3) := by decide +kernel
theorem dX1_judge_49 : decode cX1_judge 49 = .ok (.iconst 0, 1) := by decide +kernel
theorem dX1_judge_50 : decode cX1_judge 50 = .ok (.iaload, 1) := by decide +kernel
theorem dX1_judge_51 : decode cX1_judge 51 = .ok (.invokevirtual 170, 3) := by decide +kernel
theorem dX1_judge_54 : decode cX1_judge 54 = .ok (.return_, 1) := by decide +kernel
set_option maxRecDepth 20000 in
theorem ggX1_timeOfBasket_X5_amountAt : GoodIn wsX1_timeOfBasket wsX5_amountAt := goodIn_r _ [7, 8, 9, 45, 46, 47, 48] (by decide +kernel) (by decide +kernel)
set_option maxRecDepth 20000 in
theorem gX1_timeOfBasket_X5_amountAt : GoodIn wsX1_timeOfBasket (wsV RX1 173 RX5 yX5_amountAt wsX5_amountAt) := goodIn_app (goodIn_of _ (by decide +kernel)) ggX1_timeOfBasket_X5_amountAt
set_option maxRecDepth 20000 in
theorem ggX1_timeOfBasket_X5_markAt : GoodIn wsX1_timeOfBasket wsX5_markAt := goodIn_r _ [13, 8, 14, 45, 46, 47, 48] (by decide +kernel) (by decide +kernel)
set_option maxRecDepth 20000 in
theorem gX1_timeOfBasket_X5_markAt : GoodIn wsX1_timeOfBasket (wsV RX1 176 RX5 yX5_markAt wsX5_markAt) := goodIn_app (goodIn_of _ (by decide +kernel)) ggX1_timeOfBasket_X5_markAt
set_option maxRecDepth 20000 in
theorem ggX1_timeOfBasket_X1_flowOfMark : GoodIn wsX1_timeOfBasket wsX1_flowOfMark := goodIn_r _ [19, 20, 21, 22, 23, 24, 25, 18, 26, 27, 28, 29, 30, 31, 32, 33, 34, 35, 36, 37, 38, 39, 40, 41, 42, 43, 44] (by decide +kernel) (by decide +kernel)
set_option maxRecDepth 20000 in
theorem gX1_timeOfBasket_X1_flowOfMark : GoodIn wsX1_timeOfBasket (wsV RX1 179 RX1 yX1_flowOfMark wsX1_flowOfMark) := goodIn_app (goodIn_of _ (by decide +kernel)) ggX1_timeOfBasket_X1_flowOfMark
theorem dX1_timeOfBasket_0 : decode cX1_timeOfBasket 0 = .ok (.aload_n 0, 1) := by decide +kernel
theorem dX1_timeOfBasket_1 : decode cX1_timeOfBasket 1 = .ok (.getfield 37, 3) := by decide +kernel
theorem dX1_timeOfBasket_4 : decode cX1_timeOfBasket 4 = .ok (.getfield 108, 3) := by decide +kernel
theorem dX1_timeOfBasket_7 : decode cX1_timeOfBasket 7 = .ok (.iconst 1, 1) := by decide +kernel
theorem dX1_timeOfBasket_8 : decode cX1_timeOfBasket 8 = .ok (.if_icmp .ge 6, 3) := by decide +kernel
theorem dX1_timeOfBasket_11 : decode cX1_timeOfBasket 11 = .ok (.ldc 107, 2) := by decide +kernel
theorem dX1_timeOfBasket_13 : decode cX1_timeOfBasket 13 = .ok (.ireturn, 1) := by decide +kernel
theorem dX1_timeOfBasket_14 : decode cX1_timeOfBasket 14 = .ok (.iconst 0, 1) := by decide +kernel
theorem dX1_timeOfBasket_15 : decode cX1_timeOfBasket 15 = .ok (.istore_n 1, 1) := by decide +kernel
theorem dX1_timeOfBasket_16 : decode cX1_timeOfBasket 16 = .ok (.iconst 0, 1) := by decide +kernel
theorem dX1_timeOfBasket_17 : decode cX1_timeOfBasket 17 = .ok (.istore_n 2, 1) := by decide +kernel
theorem dX1_timeOfBasket_18 : decode cX1_timeOfBasket 18 = .ok (.iload_n 2, 1) := by decide +kernel
theorem dX1_timeOfBasket_19 : decode cX1_timeOfBasket 19 = .ok (.aload_n 0, 1) := by decide +kernel
theorem dX1_timeOfBasket_20 : decode cX1_timeOfBasket 20 = .ok (.getfield 37, 3) := by decide +kernel
theorem dX1_timeOfBasket_23 : decode cX1_timeOfBasket 23 = .ok (.getfield 152, 3) := by decide +kernel
theorem dX1_timeOfBasket_26 : decode cX1_timeOfBasket 26 = .ok (.if_icmp .ge 33, 3) := by decide +kernel
theorem dX1_timeOfBasket_29 : decode cX1_timeOfBasket 29 = .ok (.iload_n 1, 1) := by decide +kernel
theorem dX1_timeOfBasket_30 : decode cX1_timeOfBasket 30 = .ok (.aload_n 0, 1) := by decide +kernel
theorem dX1_timeOfBasket_31 : decode cX1_timeOfBasket 31 = .ok (.getfield 37, 3) := by decide +kernel
theorem dX1_timeOfBasket_34 : decode cX1_timeOfBasket 34 = .ok (.iload_n 2, 1) := by decide +kernel
theorem dX1_timeOfBasket_35 : decode cX1_timeOfBasket 35 = .ok (.invokevirtual 173, 3) := by decide +kernel
theorem dX1_timeOfBasket_38 : decode cX1_timeOfBasket 38 = .ok (.aload_n 0, 1) := by decide +kernel
theorem dX1_timeOfBasket_39 : decode cX1_timeOfBasket 39 = .ok (.aload_n 0, 1) := by decide +kernel
theorem dX1_timeOfBasket_40 : decode cX1_timeOfBasket 40 = .ok (.getfield 37, 3) := by decide +kernel
theorem dX1_timeOfBasket_43 : decode cX1_timeOfBasket 43 = .ok (.iload_n 2, 1) := by decide +kernel
theorem dX1_timeOfBasket_44 : decode cX1_timeOfBasket 44 = .ok (.invokevirtual 176, 3) := by decide +kernel
theorem dX1_timeOfBasket_47 : decode cX1_timeOfBasket 47 = .ok (.invokevirtual 179, 3) := by decide +kernel
theorem dX1_timeOfBasket_50 : decode cX1_timeOfBasket 50 = .ok (.imul, 1) := by decide +kernel
theorem dX1_timeOfBasket_51 : decode cX1_timeOfBasket 51 = .ok (.iadd, 1) := by decide +kernel
theorem dX1_timeOfBasket_52 : decode cX1_timeOfBasket 52 = .ok (.istore_n 1, 1) := by decide +kernel
theorem dX1_timeOfBasket_53 : decode cX1_timeOfBasket 53 = .ok (.iinc 2 1, 3) := by decide +kernel
theorem dX1_timeOfBasket_56 : decode cX1_timeOfBasket 56 = .ok (.goto (-38), 3) := by decide +kernel
theorem dX1_timeOfBasket_59 : decode cX1_timeOfBasket 59 = .ok (.iload_n 1, 1) := by decide +kernel
theorem dX1_timeOfBasket_60 : decode cX1_timeOfBasket 60 = .ok (.aload_n 0, 1) := by decide +kernel
theorem dX1_timeOfBasket_61 : decode cX1_timeOfBasket 61 = .ok (.getfield 37, 3) := by decide +kernel
theorem dX1_timeOfBasket_64 : decode cX1_timeOfBasket 64 = .ok (.getfield 108, 3) := by decide +kernel
theorem dX1_timeOfBasket_67 : decode cX1_timeOfBasket 67 = .ok (.idiv, 1) := by decide +kernel
theorem dX1_timeOfBasket_68 : decode cX1_timeOfBasket 68 = .ok (.ireturn, 1) := by decide +kernel
set_option maxRecDepth 20000 in
theorem ggX1_flowOfMark_X7_kindOfMark : GoodIn wsX1_flowOfMark wsX7_kindOfMark := goodIn_r _ [3] (by decide +kernel) (by decide +kernel)
set_option maxRecDepth 20000 in
theorem gX1_flowOfMark_X7_kindOfMark_n182 : GoodIn wsX1_flowOfMark (wsX7_kindOfMark) := ggX1_flowOfMark_X7_kindOfMark
set_option maxRecDepth 20000 in
theorem ggX1_flowOfMark_X1_hardnessOf : GoodIn wsX1_flowOfMark wsX1_hardnessOf := goodIn_r _ [8, 9, 14, 15, 16, 17, 18, 19, 20, 21, 22, 23, 24, 25, 26] (by decide +kernel) (by decide +kernel)
set_option maxRecDepth 20000 in
theorem gX1_flowOfMark_X1_hardnessOf : GoodIn wsX1_flowOfMark (wsV RX1 185 RX1 yX1_hardnessOf wsX1_hardnessOf) := goodIn_app (goodIn_of _ (by decide +kernel)) ggX1_flowOfMark_X1_hardnessOf
set_option maxRecDepth 20000 in
theorem ggX1_flowOfMark_X7_gapOfMark : GoodIn wsX1_flowOfMark wsX7_gapOfMark := goodIn_r _ [11] (by decide +kernel) (by decide +kernel)
set_option maxRecDepth 20000 in
theorem gX1_flowOfMark_X7_gapOfMark_n188 : GoodIn wsX1_flowOfMark (wsX7_gapOfMark) := ggX1_flowOfMark_X7_gapOfMark
set_option maxRecDepth 20000 in
theorem ggX1_flowOfMark_X7_flowOf : GoodIn wsX1_flowOfMark wsX7_flowOf := goodIn_r _ [13] (by decide +kernel) (by decide +kernel)
set_option maxRecDepth 20000 in
theorem gX1_flowOfMark_X7_flowOf_n191 : GoodIn wsX1_flowOfMark (wsX7_flowOf) := ggX1_flowOfMark_X7_flowOf
theorem dX1_flowOfMark_0 : decode cX1_flowOfMark 0 = .ok (.aload_n 0, 1) := by decide +kernel
theorem dX1_flowOfMark_1 : decode cX1_flowOfMark 1 = .ok (.iload_n 1, 1) := by decide +kernel
theorem dX1_flowOfMark_2 : decode cX1_flowOfMark 2 = .ok (.invokestatic 182, 3) := by decide +kernel
theorem dX1_flowOfMark_5 : decode cX1_flowOfMark 5 = .ok (.invokevirtual 185, 3) := by decide +kernel
theorem dX1_flowOfMark_8 : decode cX1_flowOfMark 8 = .ok (.iload_n 1, 1) := by decide +kernel
theorem dX1_flowOfMark_9 : decode cX1_flowOfMark 9 = .ok (.invokestatic 188, 3) := by decide +kernel
theorem dX1_flowOfMark_12 : decode cX1_flowOfMark 12 = .ok (.invokestatic 191, 3) := by decide +kernel
theorem dX1_flowOfMark_15 : decode cX1_flowOfMark 15 = .ok (.ireturn, 1) := by decide +kernel
theorem dX1_hardnessOf_0 : decode cX1_hardnessOf 0 = .ok (.iload_n 1, 1) := by decide +kernel
theorem dX1_hardnessOf_1 : decode cX1_hardnessOf 1 = .ok (.ifCond .ne 12, 3) := by decide +kernel
theorem dX1_hardnessOf_4 : decode cX1_hardnessOf 4 = .ok (.aload_n 0, 1) := by decide +kernel
theorem dX1_hardnessOf_5 : decode cX1_hardnessOf 5 = .ok (.getfield 47, 3) := by decide +kernel
theorem dX1_hardnessOf_8 : decode cX1_hardnessOf 8 = .ok (.iconst 3, 1) := by decide +kernel
theorem dX1_hardnessOf_9 : decode cX1_hardnessOf 9 = .ok (.iaload, 1) := by decide +kernel
theorem dX1_hardnessOf_10 : decode cX1_hardnessOf 10 = .ok (.goto 9, 3) := by decide +kernel
theorem dX1_hardnessOf_13 : decode cX1_hardnessOf 13 = .ok (.aload_n 0, 1) := by decide +kernel
theorem dX1_hardnessOf_14 : decode cX1_hardnessOf 14 = .ok (.getfield 47, 3) := by decide +kernel
theorem dX1_hardnessOf_17 : decode cX1_hardnessOf 17 = .ok (.iconst 4, 1) := by decide +kernel
theorem dX1_hardnessOf_18 : decode cX1_hardnessOf 18 = .ok (.iaload, 1) := by decide +kernel
theorem dX1_hardnessOf_19 : decode cX1_hardnessOf 19 = .ok (.ireturn, 1) := by decide +kernel
set_option maxRecDepth 20000 in
theorem ggX1_emptyChute_X5_clear : GoodIn wsX1_emptyChute wsX5_clear := goodIn_r _ [7, 8, 9, 23, 24, 25, 26] (by decide +kernel) (by decide +kernel)
set_option maxRecDepth 20000 in
theorem gX1_emptyChute_X5_clear : GoodIn wsX1_emptyChute (wsV RX1 159 RX5 yX5_clear wsX5_clear) := goodIn_app (goodIn_of _ (by decide +kernel)) ggX1_emptyChute_X5_clear
theorem dX1_emptyChute_0 : decode cX1_emptyChute 0 = .ok (.aload_n 0, 1) := by decide +kernel
theorem dX1_emptyChute_1 : decode cX1_emptyChute 1 = .ok (.getfield 33, 3) := by decide +kernel
theorem dX1_emptyChute_4 : decode cX1_emptyChute 4 = .ok (.getfield 108, 3) := by decide +kernel
theorem dX1_emptyChute_7 : decode cX1_emptyChute 7 = .ok (.istore_n 1, 1) := by decide +kernel
theorem dX1_emptyChute_8 : decode cX1_emptyChute 8 = .ok (.aload_n 0, 1) := by decide +kernel
theorem dX1_emptyChute_9 : decode cX1_emptyChute 9 = .ok (.getfield 33, 3) := by decide +kernel
theorem dX1_emptyChute_12 : decode cX1_emptyChute 12 = .ok (.invokevirtual 159, 3) := by decide +kernel
theorem dX1_emptyChute_15 : decode cX1_emptyChute 15 = .ok (.aload_n 0, 1) := by decide +kernel
theorem dX1_emptyChute_16 : decode cX1_emptyChute 16 = .ok (.dup, 1) := by decide +kernel
theorem dX1_emptyChute_17 : decode cX1_emptyChute 17 = .ok (.getfield 83, 3) := by decide +kernel
theorem dX1_emptyChute_20 : decode cX1_emptyChute 20 = .ok (.iload_n 1, 1) := by decide +kernel
theorem dX1_emptyChute_21 : decode cX1_emptyChute 21 = .ok (.iadd, 1) := by decide +kernel
theorem dX1_emptyChute_22 : decode cX1_emptyChute 22 = .ok (.putfield 83, 3) := by decide +kernel
theorem dX1_emptyChute_25 : decode cX1_emptyChute 25 = .ok (.iload_n 1, 1) := by decide +kernel
theorem dX1_emptyChute_26 : decode cX1_emptyChute 26 = .ok (.ireturn, 1) := by decide +kernel
set_option maxRecDepth 20000 in
theorem ggX1_correctByLatest_X7_isZeroOrOne : GoodIn wsX1_correctByLatest wsX7_isZeroOrOne := goodIn_r _ [7] (by decide +kernel) (by decide +kernel)
set_option maxRecDepth 20000 in
theorem gX1_correctByLatest_X7_isZeroOrOne_n89 : GoodIn wsX1_correctByLatest (wsX7_isZeroOrOne) := ggX1_correctByLatest_X7_isZeroOrOne
set_option maxRecDepth 20000 in
theorem ggX1_correctByLatest_X1_burrNumbered : GoodIn wsX1_correctByLatest wsX1_burrNumbered := goodIn_r _ [12, 13, 14, 35, 36, 37, 38, 39, 40, 41, 42, 43, 44, 45, 46, 47] (by decide +kernel) (by decide +kernel)
set_option maxRecDepth 20000 in
theorem gX1_correctByLatest_X1_burrNumbered : GoodIn wsX1_correctByLatest (wsV RX1 117 RX1 yX1_burrNumbered wsX1_burrNumbered) := goodIn_app (goodIn_of _ (by decide +kernel)) ggX1_correctByLatest_X1_burrNumbered
set_option maxRecDepth 20000 in
theorem ggX1_correctByLatest_X6_latestTime : GoodIn wsX1_correctByLatest wsX6_latestTime := goodIn_r _ [19, 20, 48, 49, 50] (by decide +kernel) (by decide +kernel)
set_option maxRecDepth 20000 in
theorem gX1_correctByLatest_X6_latestTime : GoodIn wsX1_correctByLatest (wsV RX1 197 RX6 yX6_latestTime wsX6_latestTime) := goodIn_app (goodIn_of _ (by decide +kernel)) ggX1_correctByLatest_X6_latestTime
set_option maxRecDepth 20000 in
theorem ggX1_correctByLatest_X0_correctBy : GoodIn wsX1_correctByLatest wsX0_correctBy := goodIn_r _ [25, 26, 27, 28, 29, 30, 31, 32, 33, 34, 51, 52, 53, 54] (by decide +kernel) (by decide +kernel)
set_option maxRecDepth 20000 in
theorem gX1_correctByLatest_X0_correctBy : GoodIn wsX1_correctByLatest (wsV RX1 170 RX0 yX0_correctBy wsX0_correctBy) := goodIn_app (goodIn_of _ (by decide +kernel)) ggX1_correctByLatest_X0_correctBy
theorem dX1_correctByLatest_0 : decode cX1_correctByLatest 0 = .ok (.iload_n 1, 1) := by decide +kernel
theorem dX1_correctByLatest_1 : decode cX1_correctByLatest 1 = .ok (.invokestatic 89, 3) := by decide +kernel
theorem dX1_correctByLatest_4 : decode cX1_correctByLatest 4 = .ok (.ifCond .ne 6, 3) := by decide +kernel
theorem dX1_correctByLatest_7 : decode cX1_correctByLatest 7 = .ok (.ldc 93, 2) := by decide +kernel
theorem dX1_correctByLatest_9 : decode cX1_correctByLatest 9 = .ok (.ireturn, 1) := by decide +kernel
theorem dX1_correctByLatest_10 : decode cX1_correctByLatest 10 = .ok (.aload_n 0, 1) := by decide +kernel
theorem dX1_correctByLatest_11 : decode cX1_correctByLatest 11 = .ok (.getfield 43, 3) := by decide +kernel
theorem dX1_correctByLatest_14 : decode cX1_correctByLatest 14 = .ok (.getfield 194, 3) := by decide +kernel
theorem dX1_correctByLatest_17 : decode cX1_correctByLatest 17 = .ok (.iconst 1, 1) := by decide +kernel
theorem dX1_correctByLatest_18 : decode cX1_correctByLatest 18 = .ok (.if_icmp .ge 6, 3) := by decide +kernel
theorem dX1_correctByLatest_21 : decode cX1_correctByLatest 21 = .ok (.ldc 107, 2) := by decide +kernel
theorem dX1_correctByLatest_23 : decode cX1_correctByLatest 23 = .ok (.ireturn, 1) := by decide +kernel
theorem dX1_correctByLatest_24 : decode cX1_correctByLatest 24 = .ok (.aload_n 0, 1) := by decide +kernel
theorem dX1_correctByLatest_25 : decode cX1_correctByLatest 25 = .ok (.iload_n 1, 1) := by decide +kernel
theorem dX1_correctByLatest_26 : decode cX1_correctByLatest 26 = .ok (.invokevirtual 117, 3) := by decide +kernel
theorem dX1_correctByLatest_29 : decode cX1_correctByLatest 29 = .ok (.astore_n 2, 1) := by decide +kernel
theorem dX1_correctByLatest_30 : decode cX1_correctByLatest 30 = .ok (.aload_n 2, 1) := by decide +kernel
theorem dX1_correctByLatest_31 : decode cX1_correctByLatest 31 = .ok (.aload_n 0, 1) := by decide +kernel
theorem dX1_correctByLatest_32 : decode cX1_correctByLatest 32 = .ok (.getfield 43, 3) := by decide +kernel
theorem dX1_correctByLatest_35 : decode cX1_correctByLatest 35 = .ok (.invokevirtual 197, 3) := by decide +kernel
theorem dX1_correctByLatest_38 : decode cX1_correctByLatest 38 = .ok (.aload_n 0, 1) := by decide +kernel
theorem dX1_correctByLatest_39 : decode cX1_correctByLatest 39 = .ok (.getfield 47, 3) := by decide +kernel
theorem dX1_correctByLatest_42 : decode cX1_correctByLatest 42 = .ok (.iconst 0, 1) := by decide +kernel
theorem dX1_correctByLatest_43 : decode cX1_correctByLatest 43 = .ok (.iaload, 1) := by decide +kernel
theorem dX1_correctByLatest_44 : decode cX1_correctByLatest 44 = .ok (.invokevirtual 170, 3) := by decide +kernel
theorem dX1_correctByLatest_47 : decode cX1_correctByLatest 47 = .ok (.aload_n 2, 1) := by decide +kernel
theorem dX1_correctByLatest_48 : decode cX1_correctByLatest 48 = .ok (.getfield 137, 3) := by decide +kernel
theorem dX1_correctByLatest_51 : decode cX1_correctByLatest 51 = .ok (.ireturn, 1) := by decide +kernel
theorem dX1_changeSetting_0 : decode cX1_changeSetting 0 = .ok (.iload_n 1, 1) := by decide +kernel
theorem dX1_changeSetting_1 : decode cX1_changeSetting 1 = .ok (.ifCond .lt 30, 3) := by decide +kernel
theorem dX1_changeSetting_4 : decode cX1_changeSetting 4 = .ok (.iload_n 1, 1) := by decide +kernel
theorem dX1_changeSetting_5 : decode cX1_changeSetting 5 = .ok (.aload_n 0, 1) := by decide +kernel
theorem dX1_changeSetting_6 : decode cX1_changeSetting 6 = .ok (.getfield 47, 3) := by decide +kernel
theorem dX1_changeSetting_9 : decode cX1_changeSetting 9 = .ok (.arraylength, 1) := by decide +kernel
theorem dX1_changeSetting_10 : decode cX1_changeSetting 10 = .ok (.if_icmp .ge 21, 3) := by decide +kernel
theorem dX1_changeSetting_13 : decode cX1_changeSetting 13 = .ok (.iload_n 2, 1) := by decide +kernel
theorem dX1_changeSetting_14 : decode cX1_changeSetting 14 = .ok (.getstatic 200, 3) := by decide +kernel
theorem dX1_changeSetting_17 : decode cX1_changeSetting 17 = .ok (.iload_n 1, 1) := by decide +kernel
theorem dX1_changeSetting_18 : decode cX1_changeSetting 18 = .ok (.iaload, 1) := by decide +kernel
theorem dX1_changeSetting_19 : decode cX1_changeSetting 19 = .ok (.if_icmp .lt 12, 3) := by decide +kernel
theorem dX1_changeSetting_22 : decode cX1_changeSetting 22 = .ok (.iload_n 2, 1) := by decide +kernel
theorem dX1_changeSetting_23 : decode cX1_changeSetting 23 = .ok (.getstatic 203, 3) := by decide +kernel
theorem dX1_changeSetting_26 : decode cX1_changeSetting 26 = .ok (.iload_n 1, 1) := by decide +kernel
theorem dX1_changeSetting_27 : decode cX1_changeSetting 27 = .ok (.iaload, 1) := by decide +kernel
theorem dX1_changeSetting_28 : decode cX1_changeSetting 28 = .ok (.if_icmp .le 6, 3) := by decide +kernel
theorem dX1_changeSetting_31 : decode cX1_changeSetting 31 = .ok (.ldc 93, 2) := by decide +kernel
theorem dX1_changeSetting_33 : decode cX1_changeSetting 33 = .ok (.ireturn, 1) := by decide +kernel
theorem dX1_changeSetting_34 : decode cX1_changeSetting 34 = .ok (.aload_n 0, 1) := by decide +kernel
theorem dX1_changeSetting_35 : decode cX1_changeSetting 35 = .ok (.getfield 47, 3) := by decide +kernel
theorem dX1_changeSetting_38 : decode cX1_changeSetting 38 = .ok (.iload_n 1, 1) := by decide +kernel
theorem dX1_changeSetting_39 : decode cX1_changeSetting 39 = .ok (.iaload, 1) := by decide +kernel
theorem dX1_changeSetting_40 : decode cX1_changeSetting 40 = .ok (.istore_n 3, 1) := by decide +kernel
theorem dX1_changeSetting_41 : decode cX1_changeSetting 41 = .ok (.aload_n 0, 1) := by decide +kernel
theorem dX1_changeSetting_42 : decode cX1_changeSetting 42 = .ok (.getfield 47, 3) := by decide +kernel
theorem dX1_changeSetting_45 : decode cX1_changeSetting 45 = .ok (.iload_n 1, 1) := by decide +kernel
theorem dX1_changeSetting_46 : decode cX1_changeSetting 46 = .ok (.iload_n 2, 1) := by decide +kernel
theorem dX1_changeSetting_47 : decode cX1_changeSetting 47 = .ok (.iastore, 1) := by decide +kernel
theorem dX1_changeSetting_48 : decode cX1_changeSetting 48 = .ok (.iload_n 3, 1) := by decide +kernel
theorem dX1_changeSetting_49 : decode cX1_changeSetting 49 = .ok (.ireturn, 1) := by decide +kernel
set_option maxRecDepth 20000 in
theorem ggX1_tellPortion_X5_markAt : GoodIn wsX1_tellPortion wsX5_markAt := goodIn_r _ [6, 7, 8, 33, 34, 35, 36] (by decide +kernel) (by decide +kernel)
set_option maxRecDepth 20000 in
theorem gX1_tellPortion_X5_markAt : GoodIn wsX1_tellPortion (wsV RX1 176 RX5 yX5_markAt wsX5_markAt) := goodIn_app (goodIn_of _ (by decide +kernel)) ggX1_tellPortion_X5_markAt
set_option maxRecDepth 20000 in
theorem ggX1_tellPortion_X5_amountAt : GoodIn wsX1_tellPortion wsX5_amountAt := goodIn_r _ [12, 7, 13, 33, 34, 35, 36] (by decide +kernel) (by decide +kernel)
set_option maxRecDepth 20000 in
theorem gX1_tellPortion_X5_amountAt : GoodIn wsX1_tellPortion (wsV RX1 173 RX5 yX5_amountAt wsX5_amountAt) := goodIn_app (goodIn_of _ (by decide +kernel)) ggX1_tellPortion_X5_amountAt
set_option maxRecDepth 20000 in
theorem ggX1_tellPortion_X7_kindOfMark : GoodIn wsX1_tellPortion wsX7_kindOfMark := goodIn_r _ [16] (by decide +kernel) (by decide +kernel)
set_option maxRecDepth 20000 in
theorem gX1_tellPortion_X7_kindOfMark_n182 : GoodIn wsX1_tellPortion (wsX7_kindOfMark) := ggX1_tellPortion_X7_kindOfMark
set_option maxRecDepth 20000 in
theorem ggX1_tellPortion_X7_burrOfMark : GoodIn wsX1_tellPortion wsX7_burrOfMark := goodIn_r _ [18] (by decide +kernel) (by decide +kernel)
set_option maxRecDepth 20000 in
theorem gX1_tellPortion_X7_burrOfMark_n207 : GoodIn wsX1_tellPortion (wsX7_burrOfMark) := ggX1_tellPortion_X7_burrOfMark
set_option maxRecDepth 20000 in
theorem ggX1_tellPortion_X7_gapOfMark : GoodIn wsX1_tellPortion wsX7_gapOfMark := goodIn_r _ [20] (by decide +kernel) (by decide +kernel)
set_option maxRecDepth 20000 in
theorem gX1_tellPortion_X7_gapOfMark_n188 : GoodIn wsX1_tellPortion (wsX7_gapOfMark) := ggX1_tellPortion_X7_gapOfMark
set_option maxRecDepth 20000 in
theorem ggX1_tellPortion_X1_flowOfMark : GoodIn wsX1_tellPortion wsX1_flowOfMark := goodIn_r _ [25, 14, 15, 16, 26, 27, 28, 24, 29, 30, 19, 20, 31, 32, 37, 38, 39, 40, 41, 42, 43, 44, 45, 46, 47, 48, 49] (by decide +kernel) (by decide +kernel)
set_option maxRecDepth 20000 in
theorem gX1_tellPortion_X1_flowOfMark : GoodIn wsX1_tellPortion (wsV RX1 179 RX1 yX1_flowOfMark wsX1_flowOfMark) := goodIn_app (goodIn_of _ (by decide +kernel)) ggX1_tellPortion_X1_flowOfMark
theorem dX1_tellPortion_0 : decode cX1_tellPortion 0 = .ok (.iload_n 2, 1) := by decide +kernel
theorem dX1_tellPortion_1 : decode cX1_tellPortion 1 = .ok (.aload_n 1, 1) := by decide +kernel
theorem dX1_tellPortion_2 : decode cX1_tellPortion 2 = .ok (.getfield 152, 3) := by decide +kernel
theorem dX1_tellPortion_5 : decode cX1_tellPortion 5 = .ok (.if_icmp .lt 6, 3) := by decide +kernel
theorem dX1_tellPortion_8 : decode cX1_tellPortion 8 = .ok (.ldc 206, 2) := by decide +kernel
theorem dX1_tellPortion_10 : decode cX1_tellPortion 10 = .ok (.ireturn, 1) := by decide +kernel
theorem dX1_tellPortion_11 : decode cX1_tellPortion 11 = .ok (.aload_n 1, 1) := by decide +kernel
theorem dX1_tellPortion_12 : decode cX1_tellPortion 12 = .ok (.iload_n 2, 1) := by decide +kernel
theorem dX1_tellPortion_13 : decode cX1_tellPortion 13 = .ok (.invokevirtual 176, 3) := by decide +kernel
theorem dX1_tellPortion_16 : decode cX1_tellPortion 16 = .ok (.istore 4, 2) := by decide +kernel
theorem dX1_tellPortion_18 : decode cX1_tellPortion 18 = .ok (.iload_n 3, 1) := by decide +kernel
theorem dX1_tellPortion_19 : decode cX1_tellPortion 19 = .ok (.tableswitch 53 0 3 #[29, 35, 41, 47], 29) := by decide +kernel
theorem dX1_tellPortion_48 : decode cX1_tellPortion 48 = .ok (.aload_n 1, 1) := by decide +kernel
theorem dX1_tellPortion_49 : decode cX1_tellPortion 49 = .ok (.iload_n 2, 1) := by decide +kernel
theorem dX1_tellPortion_50 : decode cX1_tellPortion 50 = .ok (.invokevirtual 173, 3) := by decide +kernel
theorem dX1_tellPortion_53 : decode cX1_tellPortion 53 = .ok (.ireturn, 1) := by decide +kernel
theorem dX1_tellPortion_54 : decode cX1_tellPortion 54 = .ok (.iload 4, 2) := by decide +kernel
theorem dX1_tellPortion_56 : decode cX1_tellPortion 56 = .ok (.invokestatic 182, 3) := by decide +kernel
theorem dX1_tellPortion_59 : decode cX1_tellPortion 59 = .ok (.ireturn, 1) := by decide +kernel
theorem dX1_tellPortion_60 : decode cX1_tellPortion 60 = .ok (.iload 4, 2) := by decide +kernel
theorem dX1_tellPortion_62 : decode cX1_tellPortion 62 = .ok (.invokestatic 207, 3) := by decide +kernel
theorem dX1_tellPortion_65 : decode cX1_tellPortion 65 = .ok (.ireturn, 1) := by decide +kernel
theorem dX1_tellPortion_66 : decode cX1_tellPortion 66 = .ok (.iload 4, 2) := by decide +kernel
theorem dX1_tellPortion_68 : decode cX1_tellPortion 68 = .ok (.invokestatic 188, 3) := by decide +kernel
theorem dX1_tellPortion_71 : decode cX1_tellPortion 71 = .ok (.ireturn, 1) := by decide +kernel
theorem dX1_tellPortion_72 : decode cX1_tellPortion 72 = .ok (.aload_n 0, 1) := by decide +kernel
theorem dX1_tellPortion_73 : decode cX1_tellPortion 73 = .ok (.iload 4, 2) := by decide +kernel
theorem dX1_tellPortion_75 : decode cX1_tellPortion 75 = .ok (.invokevirtual 179, 3) := by decide +kernel
theorem dX1_tellPortion_78 : decode cX1_tellPortion 78 = .ok (.ireturn, 1) := by decide +kernel
set_option maxRecDepth 20000 in
theorem ggX1_nearestDial_X1_awayAtDial : GoodIn wsX1_nearestDial wsX1_awayAtDial := goodIn_r _ [5, 6, 7, 8, 9, 10, 11, 12, 13, 4, 14, 15, 16, 17, 18, 19, 20, 21, 22, 23, 24, 25, 26, 27, 28, 29, 30, 31, 32, 33, 34, 35, 36, 37, 38, 39, 40, 41, 42, 43] (by decide +kernel) (by decide +kernel)
set_option maxRecDepth 20000 in
theorem gX1_nearestDial_X1_awayAtDial : GoodIn wsX1_nearestDial (wsV RX1 210 RX1 yX1_awayAtDial wsX1_awayAtDial) := goodIn_app (goodIn_of _ (by decide +kernel)) ggX1_nearestDial_X1_awayAtDial
theorem dX1_nearestDial_0 : decode cX1_nearestDial 0 = .ok (.iconst 1, 1) := by decide +kernel
theorem dX1_nearestDial_1 : decode cX1_nearestDial 1 = .ok (.istore_n 3, 1) := by decide +kernel
theorem dX1_nearestDial_2 : decode cX1_nearestDial 2 = .ok (.iconst 2, 1) := by decide +kernel
theorem dX1_nearestDial_3 : decode cX1_nearestDial 3 = .ok (.istore 4, 2) := by decide +kernel
theorem dX1_nearestDial_5 : decode cX1_nearestDial 5 = .ok (.iload 4, 2) := by decide +kernel
theorem dX1_nearestDial_7 : decode cX1_nearestDial 7 = .ok (.bipush 60, 2) := by decide +kernel
theorem dX1_nearestDial_9 : decode cX1_nearestDial 9 = .ok (.if_icmp .gt 30, 3) := by decide +kernel
theorem dX1_nearestDial_12 : decode cX1_nearestDial 12 = .ok (.aload_n 0, 1) := by decide +kernel
theorem dX1_nearestDial_13 : decode cX1_nearestDial 13 = .ok (.iload 4, 2) := by decide +kernel
theorem dX1_nearestDial_15 : decode cX1_nearestDial 15 = .ok (.aload_n 1, 1) := by decide +kernel
theorem dX1_nearestDial_16 : decode cX1_nearestDial 16 = .ok (.iload_n 2, 1) := by decide +kernel
theorem dX1_nearestDial_17 : decode cX1_nearestDial 17 = .ok (.invokevirtual 210, 3) := by decide +kernel
theorem dX1_nearestDial_20 : decode cX1_nearestDial 20 = .ok (.aload_n 0, 1) := by decide +kernel
theorem dX1_nearestDial_21 : decode cX1_nearestDial 21 = .ok (.iload_n 3, 1) := by decide +kernel
theorem dX1_nearestDial_22 : decode cX1_nearestDial 22 = .ok (.aload_n 1, 1) := by decide +kernel
theorem dX1_nearestDial_23 : decode cX1_nearestDial 23 = .ok (.iload_n 2, 1) := by decide +kernel
theorem dX1_nearestDial_24 : decode cX1_nearestDial 24 = .ok (.invokevirtual 210, 3) := by decide +kernel
theorem dX1_nearestDial_27 : decode cX1_nearestDial 27 = .ok (.if_icmp .ge 6, 3) := by decide +kernel
theorem dX1_nearestDial_30 : decode cX1_nearestDial 30 = .ok (.iload 4, 2) := by decide +kernel
theorem dX1_nearestDial_32 : decode cX1_nearestDial 32 = .ok (.istore_n 3, 1) := by decide +kernel
theorem dX1_nearestDial_33 : decode cX1_nearestDial 33 = .ok (.iinc 4 1, 3) := by decide +kernel
theorem dX1_nearestDial_36 : decode cX1_nearestDial 36 = .ok (.goto (-31), 3) := by decide +kernel
theorem dX1_nearestDial_39 : decode cX1_nearestDial 39 = .ok (.iload_n 3, 1) := by decide +kernel
theorem dX1_nearestDial_40 : decode cX1_nearestDial 40 = .ok (.ireturn, 1) := by decide +kernel
set_option maxRecDepth 20000 in
theorem ggX1_awayAtDial_X1_hardnessOf : GoodIn wsX1_awayAtDial wsX1_hardnessOf := goodIn_r _ [10, 1, 23, 24, 25, 26, 27, 28, 29, 30, 31, 32, 33, 34, 35] (by decide +kernel) (by decide +kernel)
set_option maxRecDepth 20000 in
theorem gX1_awayAtDial_X1_hardnessOf : GoodIn wsX1_awayAtDial (wsV RX1 185 RX1 yX1_hardnessOf wsX1_hardnessOf) := goodIn_app (goodIn_of _ (by decide +kernel)) ggX1_awayAtDial_X1_hardnessOf
set_option maxRecDepth 20000 in
theorem ggX1_awayAtDial_X0_gapAt : GoodIn wsX1_awayAtDial wsX0_gapAt := goodIn_r _ [15, 16, 17, 18, 4, 19, 36, 37, 38, 39] (by decide +kernel) (by decide +kernel)
set_option maxRecDepth 20000 in
theorem gX1_awayAtDial_X0_gapAt : GoodIn wsX1_awayAtDial (wsV RX1 214 RX0 yX0_gapAt wsX0_gapAt) := goodIn_app (goodIn_of _ (by decide +kernel)) ggX1_awayAtDial_X0_gapAt
set_option maxRecDepth 20000 in
theorem ggX1_awayAtDial_X7_flowOf : GoodIn wsX1_awayAtDial wsX7_flowOf := goodIn_r _ [22] (by decide +kernel) (by decide +kernel)
set_option maxRecDepth 20000 in
theorem gX1_awayAtDial_X7_flowOf_n191 : GoodIn wsX1_awayAtDial (wsX7_flowOf) := ggX1_awayAtDial_X7_flowOf
theorem dX1_awayAtDial_0 : decode cX1_awayAtDial 0 = .ok (.aload_n 0, 1) := by decide +kernel
theorem dX1_awayAtDial_1 : decode cX1_awayAtDial 1 = .ok (.iload_n 3, 1) := by decide +kernel
theorem dX1_awayAtDial_2 : decode cX1_awayAtDial 2 = .ok (.invokevirtual 185, 3) := by decide +kernel
theorem dX1_awayAtDial_5 : decode cX1_awayAtDial 5 = .ok (.aload_n 2, 1) := by decide +kernel
theorem dX1_awayAtDial_6 : decode cX1_awayAtDial 6 = .ok (.iload_n 1, 1) := by decide +kernel
theorem dX1_awayAtDial_7 : decode cX1_awayAtDial 7 = .ok (.invokevirtual 214, 3) := by decide +kernel
theorem dX1_awayAtDial_10 : decode cX1_awayAtDial 10 = .ok (.invokestatic 191, 3) := by decide +kernel
theorem dX1_awayAtDial_13 : decode cX1_awayAtDial 13 = .ok (.aload_n 0, 1) := by decide +kernel
theorem dX1_awayAtDial_14 : decode cX1_awayAtDial 14 = .ok (.getfield 47, 3) := by decide +kernel
theorem dX1_awayAtDial_17 : decode cX1_awayAtDial 17 = .ok (.iconst 0, 1) := by decide +kernel
theorem dX1_awayAtDial_18 : decode cX1_awayAtDial 18 = .ok (.iaload, 1) := by decide +kernel
theorem dX1_awayAtDial_19 : decode cX1_awayAtDial 19 = .ok (.isub, 1) := by decide +kernel
theorem dX1_awayAtDial_20 : decode cX1_awayAtDial 20 = .ok (.invokestatic 166, 3) := by decide +kernel
theorem dX1_awayAtDial_23 : decode cX1_awayAtDial 23 = .ok (.ireturn, 1) := by decide +kernel
set_option maxRecDepth 20000 in
theorem ggX1_staleFor_X3_isEmpty : GoodIn wsX1_staleFor wsX3_isEmpty := goodIn_r _ [8, 9, 64, 65, 66, 67, 68] (by decide +kernel) (by decide +kernel)
set_option maxRecDepth 20000 in
theorem gX1_staleFor_X3_isEmpty : GoodIn wsX1_staleFor (wsV RX1 217 RX3 yX3_isEmpty wsX3_isEmpty) := goodIn_app (goodIn_of _ (by decide +kernel)) ggX1_staleFor_X3_isEmpty
set_option maxRecDepth 20000 in
theorem ggX1_staleFor_X3_firstKind : GoodIn wsX1_staleFor wsX3_firstKind := goodIn_r _ [13, 9, 14, 15, 16, 17, 18, 19, 20, 64, 65, 66, 67, 68] (by decide +kernel) (by decide +kernel)
set_option maxRecDepth 20000 in
theorem gX1_staleFor_X3_firstKind : GoodIn wsX1_staleFor (wsV RX1 221 RX3 yX3_firstKind wsX3_firstKind) := goodIn_app (goodIn_of _ (by decide +kernel)) ggX1_staleFor_X3_firstKind
set_option maxRecDepth 20000 in
theorem ggX1_staleFor_X1_burrNumbered : GoodIn wsX1_staleFor wsX1_burrNumbered := goodIn_r _ [25, 26, 27, 51, 52, 53, 54, 55, 56, 57, 58, 59, 60, 61, 62, 63] (by decide +kernel) (by decide +kernel)
set_option maxRecDepth 20000 in
theorem gX1_staleFor_X1_burrNumbered : GoodIn wsX1_staleFor (wsV RX1 117 RX1 yX1_burrNumbered wsX1_burrNumbered) := goodIn_app (goodIn_of _ (by decide +kernel)) ggX1_staleFor_X1_burrNumbered
set_option maxRecDepth 20000 in
theorem ggX1_staleFor_X0_gap : GoodIn wsX1_staleFor wsX0_gap := goodIn_r _ [32, 33, 34, 35, 36, 31, 37, 38, 39, 40, 41, 42, 69, 70, 71, 72] (by decide +kernel) (by decide +kernel)
set_option maxRecDepth 20000 in
theorem gX1_staleFor_X0_gap : GoodIn wsX1_staleFor (wsV RX1 121 RX0 yX0_gap wsX0_gap) := goodIn_app (goodIn_of _ (by decide +kernel)) ggX1_staleFor_X0_gap
set_option maxRecDepth 20000 in
theorem ggX1_staleFor_X7_markOf : GoodIn wsX1_staleFor wsX7_markOf := goodIn_r _ [45] (by decide +kernel) (by decide +kernel)
set_option maxRecDepth 20000 in
theorem gX1_staleFor_X7_markOf_n224 : GoodIn wsX1_staleFor (wsX7_markOf) := ggX1_staleFor_X7_markOf
set_option maxRecDepth 20000 in
theorem ggX1_staleFor_X5_amountUpToLastUnlike : GoodIn wsX1_staleFor wsX5_amountUpToLastUnlike := goodIn_r _ [49, 19, 50, 20, 65, 66, 67, 68] (by decide +kernel) (by decide +kernel)
set_option maxRecDepth 20000 in
theorem gX1_staleFor_X5_amountUpToLastUnlike : GoodIn wsX1_staleFor (wsV RX1 228 RX5 yX5_amountUpToLastUnlike wsX5_amountUpToLastUnlike) := goodIn_app (goodIn_of _ (by decide +kernel)) ggX1_staleFor_X5_amountUpToLastUnlike
theorem dX1_staleFor_0 : decode cX1_staleFor 0 = .ok (.aload_n 0, 1) := by decide +kernel
theorem dX1_staleFor_1 : decode cX1_staleFor 1 = .ok (.getfield 12, 3) := by decide +kernel
theorem dX1_staleFor_4 : decode cX1_staleFor 4 = .ok (.invokevirtual 217, 3) := by decide +kernel
theorem dX1_staleFor_7 : decode cX1_staleFor 7 = .ok (.ifCond .eq 6, 3) := by decide +kernel
theorem dX1_staleFor_10 : decode cX1_staleFor 10 = .ok (.ldc 107, 2) := by decide +kernel
theorem dX1_staleFor_12 : decode cX1_staleFor 12 = .ok (.ireturn, 1) := by decide +kernel
theorem dX1_staleFor_13 : decode cX1_staleFor 13 = .ok (.aload_n 0, 1) := by decide +kernel
theorem dX1_staleFor_14 : decode cX1_staleFor 14 = .ok (.getfield 12, 3) := by decide +kernel
theorem dX1_staleFor_17 : decode cX1_staleFor 17 = .ok (.invokevirtual 221, 3) := by decide +kernel
theorem dX1_staleFor_20 : decode cX1_staleFor 20 = .ok (.iload_n 1, 1) := by decide +kernel
theorem dX1_staleFor_21 : decode cX1_staleFor 21 = .ok (.aload_n 0, 1) := by decide +kernel
theorem dX1_staleFor_22 : decode cX1_staleFor 22 = .ok (.iload_n 1, 1) := by decide +kernel
theorem dX1_staleFor_23 : decode cX1_staleFor 23 = .ok (.invokevirtual 117, 3) := by decide +kernel
theorem dX1_staleFor_26 : decode cX1_staleFor 26 = .ok (.invokevirtual 121, 3) := by decide +kernel
theorem dX1_staleFor_29 : decode cX1_staleFor 29 = .ok (.invokestatic 224, 3) := by decide +kernel
theorem dX1_staleFor_32 : decode cX1_staleFor 32 = .ok (.istore_n 2, 1) := by decide +kernel
theorem dX1_staleFor_33 : decode cX1_staleFor 33 = .ok (.aload_n 0, 1) := by decide +kernel
theorem dX1_staleFor_34 : decode cX1_staleFor 34 = .ok (.getfield 33, 3) := by decide +kernel
theorem dX1_staleFor_37 : decode cX1_staleFor 37 = .ok (.iload_n 2, 1) := by decide +kernel
theorem dX1_staleFor_38 : decode cX1_staleFor 38 = .ok (.invokevirtual 228, 3) := by decide +kernel
theorem dX1_staleFor_41 : decode cX1_staleFor 41 = .ok (.ireturn, 1) := by decide +kernel
set_option maxRecDepth 20000 in
theorem ggX1_secondsToCool_X0_coolingsTo : GoodIn wsX1_secondsToCool wsX0_coolingsTo := goodIn_r _ [6, 7, 8, 9, 10, 24, 25, 26, 27] (by decide +kernel) (by decide +kernel)
set_option maxRecDepth 20000 in
theorem gX1_secondsToCool_X0_coolingsTo : GoodIn wsX1_secondsToCool (wsV RX1 231 RX0 yX0_coolingsTo wsX0_coolingsTo) := goodIn_app (goodIn_of _ (by decide +kernel)) ggX1_secondsToCool_X0_coolingsTo
theorem dX1_secondsToCool_0 : decode cX1_secondsToCool 0 = .ok (.aload_n 1, 1) := by decide +kernel
theorem dX1_secondsToCool_1 : decode cX1_secondsToCool 1 = .ok (.iload_n 2, 1) := by decide +kernel
theorem dX1_secondsToCool_2 : decode cX1_secondsToCool 2 = .ok (.invokevirtual 231, 3) := by decide +kernel
theorem dX1_secondsToCool_5 : decode cX1_secondsToCool 5 = .ok (.istore_n 3, 1) := by decide +kernel
theorem dX1_secondsToCool_6 : decode cX1_secondsToCool 6 = .ok (.iload_n 3, 1) := by decide +kernel
theorem dX1_secondsToCool_7 : decode cX1_secondsToCool 7 = .ok (.iconst 1, 1) := by decide +kernel
theorem dX1_secondsToCool_8 : decode cX1_secondsToCool 8 = .ok (.if_icmp .ge 7, 3) := by decide +kernel
theorem dX1_secondsToCool_11 : decode cX1_secondsToCool 11 = .ok (.iconst 0, 1) := by decide +kernel
theorem dX1_secondsToCool_12 : decode cX1_secondsToCool 12 = .ok (.goto 15, 3) := by decide +kernel
theorem dX1_secondsToCool_15 : decode cX1_secondsToCool 15 = .ok (.iload_n 3, 1) := by decide +kernel
theorem dX1_secondsToCool_16 : decode cX1_secondsToCool 16 = .ok (.bipush 10, 2) := by decide +kernel
theorem dX1_secondsToCool_18 : decode cX1_secondsToCool 18 = .ok (.imul, 1) := by decide +kernel
theorem dX1_secondsToCool_19 : decode cX1_secondsToCool 19 = .ok (.aload_n 0, 1) := by decide +kernel
theorem dX1_secondsToCool_20 : decode cX1_secondsToCool 20 = .ok (.getfield 70, 3) := by decide +kernel
theorem dX1_secondsToCool_23 : decode cX1_secondsToCool 23 = .ok (.bipush 10, 2) := by decide +kernel
theorem dX1_secondsToCool_25 : decode cX1_secondsToCool 25 = .ok (.irem, 1) := by decide +kernel
theorem dX1_secondsToCool_26 : decode cX1_secondsToCool 26 = .ok (.isub, 1) := by decide +kernel
theorem dX1_secondsToCool_27 : decode cX1_secondsToCool 27 = .ok (.ireturn, 1) := by decide +kernel
set_option maxRecDepth 20000 in
theorem ggX1_tell_X3_amount : GoodIn wsX1_tell wsX3_amount := goodIn_r _ [15, 16, 44, 37, 38, 39, 40] (by decide +kernel) (by decide +kernel)
set_option maxRecDepth 20000 in
theorem gX1_tell_X3_amount : GoodIn wsX1_tell (wsV RX1 103 RX3 yX3_amount wsX3_amount) := goodIn_app (goodIn_of _ (by decide +kernel)) ggX1_tell_X3_amount
set_option maxRecDepth 20000 in
theorem ggX1_tell_X1_tellSetting : GoodIn wsX1_tell wsX1_tellSetting := goodIn_r _ [21, 22, 23, 24, 25, 26, 27, 28, 29, 30, 31, 32, 33, 34, 35, 36] (by decide +kernel) (by decide +kernel)
set_option maxRecDepth 20000 in
theorem gX1_tell_X1_tellSetting : GoodIn wsX1_tell (wsV RX1 237 RX1 yX1_tellSetting wsX1_tellSetting) := goodIn_app (goodIn_of _ (by decide +kernel)) ggX1_tell_X1_tellSetting
theorem dX1_tell_0 : decode cX1_tell 0 = .ok (.iload_n 1, 1) := by decide +kernel
theorem dX1_tell_1 : decode cX1_tell 1 = .ok (.tableswitch 117 0 9 #[55, 60, 65, 70, 75, 80, 88, 96, 104, 112], 55) := by decide +kernel
theorem dX1_tell_56 : decode cX1_tell 56 = .ok (.aload_n 0, 1) := by decide +kernel
theorem dX1_tell_57 : decode cX1_tell 57 = .ok (.getfield 70, 3) := by decide +kernel
theorem dX1_tell_60 : decode cX1_tell 60 = .ok (.ireturn, 1) := by decide +kernel
theorem dX1_tell_61 : decode cX1_tell 61 = .ok (.aload_n 0, 1) := by decide +kernel
theorem dX1_tell_62 : decode cX1_tell 62 = .ok (.getfield 74, 3) := by decide +kernel
theorem dX1_tell_65 : decode cX1_tell 65 = .ok (.ireturn, 1) := by decide +kernel
theorem dX1_tell_66 : decode cX1_tell 66 = .ok (.aload_n 0, 1) := by decide +kernel
theorem dX1_tell_67 : decode cX1_tell 67 = .ok (.getfield 77, 3) := by decide +kernel
theorem dX1_tell_70 : decode cX1_tell 70 = .ok (.ireturn, 1) := by decide +kernel
theorem dX1_tell_71 : decode cX1_tell 71 = .ok (.aload_n 0, 1) := by decide +kernel
theorem dX1_tell_72 : decode cX1_tell 72 = .ok (.getfield 80, 3) := by decide +kernel
theorem dX1_tell_75 : decode cX1_tell 75 = .ok (.ireturn, 1) := by decide +kernel
theorem dX1_tell_76 : decode cX1_tell 76 = .ok (.aload_n 0, 1) := by decide +kernel
theorem dX1_tell_77 : decode cX1_tell 77 = .ok (.getfield 83, 3) := by decide +kernel
theorem dX1_tell_80 : decode cX1_tell 80 = .ok (.ireturn, 1) := by decide +kernel
theorem dX1_tell_81 : decode cX1_tell 81 = .ok (.aload_n 0, 1) := by decide +kernel
theorem dX1_tell_82 : decode cX1_tell 82 = .ok (.getfield 12, 3) := by decide +kernel
theorem dX1_tell_85 : decode cX1_tell 85 = .ok (.invokevirtual 103, 3) := by decide +kernel
theorem dX1_tell_88 : decode cX1_tell 88 = .ok (.ireturn, 1) := by decide +kernel
theorem dX1_tell_89 : decode cX1_tell 89 = .ok (.aload_n 0, 1) := by decide +kernel
theorem dX1_tell_90 : decode cX1_tell 90 = .ok (.getfield 33, 3) := by decide +kernel
theorem dX1_tell_93 : decode cX1_tell 93 = .ok (.getfield 108, 3) := by decide +kernel
theorem dX1_tell_96 : decode cX1_tell 96 = .ok (.ireturn, 1) := by decide +kernel
theorem dX1_tell_97 : decode cX1_tell 97 = .ok (.aload_n 0, 1) := by decide +kernel
theorem dX1_tell_98 : decode cX1_tell 98 = .ok (.getfield 37, 3) := by decide +kernel
theorem dX1_tell_101 : decode cX1_tell 101 = .ok (.getfield 108, 3) := by decide +kernel
theorem dX1_tell_104 : decode cX1_tell 104 = .ok (.ireturn, 1) := by decide +kernel
theorem dX1_tell_105 : decode cX1_tell 105 = .ok (.aload_n 0, 1) := by decide +kernel
theorem dX1_tell_106 : decode cX1_tell 106 = .ok (.getfield 43, 3) := by decide +kernel
theorem dX1_tell_109 : decode cX1_tell 109 = .ok (.getfield 234, 3) := by decide +kernel
theorem dX1_tell_112 : decode cX1_tell 112 = .ok (.ireturn, 1) := by decide +kernel
theorem dX1_tell_113 : decode cX1_tell 113 = .ok (.aload_n 0, 1) := by decide +kernel
theorem dX1_tell_114 : decode cX1_tell 114 = .ok (.getfield 86, 3) := by decide +kernel
theorem dX1_tell_117 : decode cX1_tell 117 = .ok (.ireturn, 1) := by decide +kernel
theorem dX1_tell_118 : decode cX1_tell 118 = .ok (.aload_n 0, 1) := by decide +kernel
theorem dX1_tell_119 : decode cX1_tell 119 = .ok (.iload_n 1, 1) := by decide +kernel
theorem dX1_tell_120 : decode cX1_tell 120 = .ok (.invokevirtual 237, 3) := by decide +kernel
theorem dX1_tell_123 : decode cX1_tell 123 = .ok (.ireturn, 1) := by decide +kernel
theorem dX1_tellSetting_0 : decode cX1_tellSetting 0 = .ok (.iload_n 1, 1) := by decide +kernel
theorem dX1_tellSetting_1 : decode cX1_tellSetting 1 = .ok (.bipush 20, 2) := by decide +kernel
theorem dX1_tellSetting_3 : decode cX1_tellSetting 3 = .ok (.if_icmp .lt 15, 3) := by decide +kernel
theorem dX1_tellSetting_6 : decode cX1_tellSetting 6 = .ok (.iload_n 1, 1) := by decide +kernel
theorem dX1_tellSetting_7 : decode cX1_tellSetting 7 = .ok (.bipush 20, 2) := by decide +kernel
theorem dX1_tellSetting_9 : decode cX1_tellSetting 9 = .ok (.aload_n 0, 1) := by decide +kernel
theorem dX1_tellSetting_10 : decode cX1_tellSetting 10 = .ok (.getfield 47, 3) := by decide +kernel
theorem dX1_tellSetting_13 : decode cX1_tellSetting 13 = .ok (.arraylength, 1) := by decide +kernel
theorem dX1_tellSetting_14 : decode cX1_tellSetting 14 = .ok (.iadd, 1) := by decide +kernel
theorem dX1_tellSetting_15 : decode cX1_tellSetting 15 = .ok (.if_icmp .lt 6, 3) := by decide +kernel
theorem dX1_tellSetting_18 : decode cX1_tellSetting 18 = .ok (.ldc 93, 2) := by decide +kernel
theorem dX1_tellSetting_20 : decode cX1_tellSetting 20 = .ok (.ireturn, 1) := by decide +kernel
theorem dX1_tellSetting_21 : decode cX1_tellSetting 21 = .ok (.aload_n 0, 1) := by decide +kernel
theorem dX1_tellSetting_22 : decode cX1_tellSetting 22 = .ok (.getfield 47, 3) := by decide +kernel
theorem dX1_tellSetting_25 : decode cX1_tellSetting 25 = .ok (.iload_n 1, 1) := by decide +kernel
theorem dX1_tellSetting_26 : decode cX1_tellSetting 26 = .ok (.bipush 20, 2) := by decide +kernel
theorem dX1_tellSetting_28 : decode cX1_tellSetting 28 = .ok (.isub, 1) := by decide +kernel
theorem dX1_tellSetting_29 : decode cX1_tellSetting 29 = .ok (.iaload, 1) := by decide +kernel
theorem dX1_tellSetting_30 : decode cX1_tellSetting 30 = .ok (.ireturn, 1) := by decide +kernel
set_option maxRecDepth 20000 in
theorem ggX2_init_X1_init : GoodIn wsX2_init wsX1_init := goodIn_r _ [12, 13, 2, 3, 14, 15, 16, 17, 18, 19, 20, 21, 22, 23, 24, 25, 26, 27, 28, 29, 30, 31, 32, 33, 34, 35, 36, 37, 38, 39, 40, 41, 42, 43, 44, 45, 46, 47, 48, 49, 50, 51, 52, 53, 72, 54, 55, 56, 57, 58, 59, 60, 61, 62, 63, 64, 65, 66, 73, 74, 75, 76, 77, 78, 79, 80, 81, 82, 83] (by decide +kernel) (by decide +kernel)
set_option maxRecDepth 20000 in
theorem gX2_init_X1_init_n11 : GoodIn wsX2_init (wsX1_init) := ggX2_init_X1_init
theorem dX2_init_0 : decode cX2_init 0 = .ok (.aload_n 0, 1) := by decide +kernel
theorem dX2_init_1 : decode cX2_init 1 = .ok (.invokespecial 3, 3) := by decide +kernel
theorem dX2_init_4 : decode cX2_init 4 = .ok (.aload_n 0, 1) := by decide +kernel
theorem dX2_init_5 : decode cX2_init 5 = .ok (.new 9, 3) := by decide +kernel
theorem dX2_init_8 : decode cX2_init 8 = .ok (.dup, 1) := by decide +kernel
theorem dX2_init_9 : decode cX2_init 9 = .ok (.invokespecial 11, 3) := by decide +kernel
theorem dX2_init_12 : decode cX2_init 12 = .ok (.putfield 12, 3) := by decide +kernel
theorem dX2_init_15 : decode cX2_init 15 = .ok (.aload_n 0, 1) := by decide +kernel
theorem dX2_init_16 : decode cX2_init 16 = .ok (.new 9, 3) := by decide +kernel
theorem dX2_init_19 : decode cX2_init 19 = .ok (.dup, 1) := by decide +kernel
theorem dX2_init_20 : decode cX2_init 20 = .ok (.invokespecial 11, 3) := by decide +kernel
theorem dX2_init_23 : decode cX2_init 23 = .ok (.putfield 18, 3) := by decide +kernel
theorem dX2_init_26 : decode cX2_init 26 = .ok (.aload_n 0, 1) := by decide +kernel
theorem dX2_init_27 : decode cX2_init 27 = .ok (.new 9, 3) := by decide +kernel
theorem dX2_init_30 : decode cX2_init 30 = .ok (.dup, 1) := by decide +kernel
theorem dX2_init_31 : decode cX2_init 31 = .ok (.invokespecial 11, 3) := by decide +kernel
theorem dX2_init_34 : decode cX2_init 34 = .ok (.putfield 21, 3) := by decide +kernel
theorem dX2_init_37 : decode cX2_init 37 = .ok (.aload_n 0, 1) := by decide +kernel
theorem dX2_init_38 : decode cX2_init 38 = .ok (.new 9, 3) := by decide +kernel
theorem dX2_init_41 : decode cX2_init 41 = .ok (.dup, 1) := by decide +kernel
theorem dX2_init_42 : decode cX2_init 42 = .ok (.invokespecial 11, 3) := by decide +kernel
theorem dX2_init_45 : decode cX2_init 45 = .ok (.putfield 24, 3) := by decide +kernel
theorem dX2_init_48 : decode cX2_init 48 = .ok (.return_, 1) := by decide +kernel
theorem dX2_add_0 : decode cX2_add 0 = .ok (.aload_n 0, 1) := by decide +kernel
theorem dX2_add_1 : decode cX2_add 1 = .ok (.getfield 24, 3) := by decide +kernel
theorem dX2_add_4 : decode cX2_add 4 = .ok (.astore_n 2, 1) := by decide +kernel
theorem dX2_add_5 : decode cX2_add 5 = .ok (.aload_n 0, 1) := by decide +kernel
theorem dX2_add_6 : decode cX2_add 6 = .ok (.aload_n 0, 1) := by decide +kernel
theorem dX2_add_7 : decode cX2_add 7 = .ok (.getfield 21, 3) := by decide +kernel
theorem dX2_add_10 : decode cX2_add 10 = .ok (.putfield 24, 3) := by decide +kernel
theorem dX2_add_13 : decode cX2_add 13 = .ok (.aload_n 0, 1) := by decide +kernel
theorem dX2_add_14 : decode cX2_add 14 = .ok (.aload_n 0, 1) := by decide +kernel
theorem dX2_add_15 : decode cX2_add 15 = .ok (.getfield 18, 3) := by decide +kernel
theorem dX2_add_18 : decode cX2_add 18 = .ok (.putfield 21, 3) := by decide +kernel
theorem dX2_add_21 : decode cX2_add 21 = .ok (.aload_n 0, 1) := by decide +kernel
theorem dX2_add_22 : decode cX2_add 22 = .ok (.aload_n 0, 1) := by decide +kernel
theorem dX2_add_23 : decode cX2_add 23 = .ok (.getfield 12, 3) := by decide +kernel
theorem dX2_add_26 : decode cX2_add 26 = .ok (.putfield 18, 3) := by decide +kernel
theorem dX2_add_29 : decode cX2_add 29 = .ok (.aload_n 0, 1) := by decide +kernel
theorem dX2_add_30 : decode cX2_add 30 = .ok (.aload_n 1, 1) := by decide +kernel
theorem dX2_add_31 : decode cX2_add 31 = .ok (.putfield 12, 3) := by decide +kernel
theorem dX2_add_34 : decode cX2_add 34 = .ok (.aload_n 0, 1) := by decide +kernel
theorem dX2_add_35 : decode cX2_add 35 = .ok (.iconst 4, 1) := by decide +kernel
theorem dX2_add_36 : decode cX2_add 36 = .ok (.aload_n 0, 1) := by decide +kernel
theorem dX2_add_37 : decode cX2_add 37 = .ok (.getfield 27, 3) := by decide +kernel
theorem dX2_add_40 : decode cX2_add 40 = .ok (.iconst 1, 1) := by decide +kernel
theorem dX2_add_41 : decode cX2_add 41 = .ok (.iadd, 1) := by decide +kernel
theorem dX2_add_42 : decode cX2_add 42 = .ok (.invokestatic 31, 3) := by decide +kernel
theorem dX2_add_45 : decode cX2_add 45 = .ok (.putfield 27, 3) := by decide +kernel
theorem dX2_add_48 : decode cX2_add 48 = .ok (.aload_n 2, 1) := by decide +kernel
theorem dX2_add_49 : decode cX2_add 49 = .ok (.areturn, 1) := by decide +kernel
theorem dX2_takeLatest_0 : decode cX2_takeLatest 0 = .ok (.aload_n 0, 1) := by decide +kernel
theorem dX2_takeLatest_1 : decode cX2_takeLatest 1 = .ok (.getfield 12, 3) := by decide +kernel
theorem dX2_takeLatest_4 : decode cX2_takeLatest 4 = .ok (.astore_n 2, 1) := by decide +kernel
theorem dX2_takeLatest_5 : decode cX2_takeLatest 5 = .ok (.aload_n 0, 1) := by decide +kernel
theorem dX2_takeLatest_6 : decode cX2_takeLatest 6 = .ok (.aload_n 0, 1) := by decide +kernel
theorem dX2_takeLatest_7 : decode cX2_takeLatest 7 = .ok (.getfield 18, 3) := by decide +kernel
theorem dX2_takeLatest_10 : decode cX2_takeLatest 10 = .ok (.putfield 12, 3) := by decide +kernel
theorem dX2_takeLatest_13 : decode cX2_takeLatest 13 = .ok (.aload_n 0, 1) := by decide +kernel
theorem dX2_takeLatest_14 : decode cX2_takeLatest 14 = .ok (.aload_n 0, 1) := by decide +kernel
theorem dX2_takeLatest_15 : decode cX2_takeLatest 15 = .ok (.getfield 21, 3) := by decide +kernel
theorem dX2_takeLatest_18 : decode cX2_takeLatest 18 = .ok (.putfield 18, 3) := by decide +kernel
theorem dX2_takeLatest_21 : decode cX2_takeLatest 21 = .ok (.aload_n 0, 1) := by decide +kernel
theorem dX2_takeLatest_22 : decode cX2_takeLatest 22 = .ok (.aload_n 0, 1) := by decide +kernel
theorem dX2_takeLatest_23 : decode cX2_takeLatest 23 = .ok (.getfield 24, 3) := by decide +kernel
theorem dX2_takeLatest_26 : decode cX2_takeLatest 26 = .ok (.putfield 21, 3) := by decide +kernel
theorem dX2_takeLatest_29 : decode cX2_takeLatest 29 = .ok (.aload_n 0, 1) := by decide +kernel
theorem dX2_takeLatest_30 : decode cX2_takeLatest 30 = .ok (.aload_n 1, 1) := by decide +kernel
theorem dX2_takeLatest_31 : decode cX2_takeLatest 31 = .ok (.putfield 24, 3) := by decide +kernel
theorem dX2_takeLatest_34 : decode cX2_takeLatest 34 = .ok (.aload_n 0, 1) := by decide +kernel
theorem dX2_takeLatest_35 : decode cX2_takeLatest 35 = .ok (.iconst 0, 1) := by decide +kernel
theorem dX2_takeLatest_36 : decode cX2_takeLatest 36 = .ok (.aload_n 0, 1) := by decide +kernel
theorem dX2_takeLatest_37 : decode cX2_takeLatest 37 = .ok (.getfield 27, 3) := by decide +kernel
theorem dX2_takeLatest_40 : decode cX2_takeLatest 40 = .ok (.iconst 1, 1) := by decide +kernel
theorem dX2_takeLatest_41 : decode cX2_takeLatest 41 = .ok (.isub, 1) := by decide +kernel
theorem dX2_takeLatest_42 : decode cX2_takeLatest 42 = .ok (.invokestatic 37, 3) := by decide +kernel
theorem dX2_takeLatest_45 : decode cX2_takeLatest 45 = .ok (.putfield 27, 3) := by decide +kernel
theorem dX2_takeLatest_48 : decode cX2_takeLatest 48 = .ok (.aload_n 2, 1) := by decide +kernel
theorem dX2_takeLatest_49 : decode cX2_takeLatest 49 = .ok (.areturn, 1) := by decide +kernel
set_option maxRecDepth 20000 in
theorem ggX3_init_X5_init : GoodIn wsX3_init wsX5_init := goodIn_r _ [10, 11, 2, 3, 12, 13, 14, 15, 16, 17, 18] (by decide +kernel) (by decide +kernel)
set_option maxRecDepth 20000 in
theorem gX3_init_X5_init : GoodIn wsX3_init (wsX5_init) := ggX3_init_X5_init
theorem dX3_init_0 : decode cX3_init 0 = .ok (.aload_n 0, 1) := by decide +kernel
theorem dX3_init_1 : decode cX3_init 1 = .ok (.invokespecial 3, 3) := by decide +kernel
theorem dX3_init_4 : decode cX3_init 4 = .ok (.aload_n 0, 1) := by decide +kernel
theorem dX3_init_5 : decode cX3_init 5 = .ok (.new 9, 3) := by decide +kernel
theorem dX3_init_8 : decode cX3_init 8 = .ok (.dup, 1) := by decide +kernel
theorem dX3_init_9 : decode cX3_init 9 = .ok (.bipush 6, 2) := by decide +kernel
theorem dX3_init_11 : decode cX3_init 11 = .ok (.invokespecial 11, 3) := by decide +kernel
theorem dX3_init_14 : decode cX3_init 14 = .ok (.putfield 14, 3) := by decide +kernel
theorem dX3_init_17 : decode cX3_init 17 = .ok (.return_, 1) := by decide +kernel
set_option maxRecDepth 20000 in
theorem ggX3_copyFrom_X5_copyFrom : GoodIn wsX3_copyFrom wsX5_copyFrom := goodIn_r _ [6, 7, 8, 9, 10, 11, 12, 13, 14, 15, 16, 17, 18, 20, 21, 22, 23] (by decide +kernel) (by decide +kernel)
set_option maxRecDepth 20000 in
theorem gX3_copyFrom_X5_copyFrom : GoodIn wsX3_copyFrom (wsV RX3 20 RX5 yX5_copyFrom wsX5_copyFrom) := goodIn_app (goodIn_of _ (by decide +kernel)) ggX3_copyFrom_X5_copyFrom
theorem dX3_copyFrom_0 : decode cX3_copyFrom 0 = .ok (.aload_n 0, 1) := by decide +kernel
theorem dX3_copyFrom_1 : decode cX3_copyFrom 1 = .ok (.getfield 14, 3) := by decide +kernel
theorem dX3_copyFrom_4 : decode cX3_copyFrom 4 = .ok (.aload_n 1, 1) := by decide +kernel
theorem dX3_copyFrom_5 : decode cX3_copyFrom 5 = .ok (.getfield 14, 3) := by decide +kernel
theorem dX3_copyFrom_8 : decode cX3_copyFrom 8 = .ok (.invokevirtual 20, 3) := by decide +kernel
theorem dX3_copyFrom_11 : decode cX3_copyFrom 11 = .ok (.return_, 1) := by decide +kernel
theorem dX3_amount_0 : decode cX3_amount 0 = .ok (.aload_n 0, 1) := by decide +kernel
theorem dX3_amount_1 : decode cX3_amount 1 = .ok (.getfield 14, 3) := by decide +kernel
theorem dX3_amount_4 : decode cX3_amount 4 = .ok (.getfield 24, 3) := by decide +kernel
theorem dX3_amount_7 : decode cX3_amount 7 = .ok (.ireturn, 1) := by decide +kernel
theorem dX3_isEmpty_0 : decode cX3_isEmpty 0 = .ok (.aload_n 0, 1) := by decide +kernel
theorem dX3_isEmpty_1 : decode cX3_isEmpty 1 = .ok (.getfield 14, 3) := by decide +kernel
theorem dX3_isEmpty_4 : decode cX3_isEmpty 4 = .ok (.getfield 28, 3) := by decide +kernel
theorem dX3_isEmpty_7 : decode cX3_isEmpty 7 = .ok (.iconst 1, 1) := by decide +kernel
theorem dX3_isEmpty_8 : decode cX3_isEmpty 8 = .ok (.if_icmp .ge 7, 3) := by decide +kernel
theorem dX3_isEmpty_11 : decode cX3_isEmpty 11 = .ok (.iconst 1, 1) := by decide +kernel
theorem dX3_isEmpty_12 : decode cX3_isEmpty 12 = .ok (.goto 4, 3) := by decide +kernel
theorem dX3_isEmpty_15 : decode cX3_isEmpty 15 = .ok (.iconst 0, 1) := by decide +kernel
theorem dX3_isEmpty_16 : decode cX3_isEmpty 16 = .ok (.ireturn, 1) := by decide +kernel
set_option maxRecDepth 20000 in
theorem ggX3_hasRoomFor_X3_endsWith : GoodIn wsX3_hasRoomFor wsX3_endsWith := goodIn_r _ [6, 1, 7, 8, 9, 10, 11, 12, 13, 14, 15, 16, 17, 18] (by decide +kernel) (by decide +kernel)
set_option maxRecDepth 20000 in
theorem gX3_hasRoomFor_X3_endsWith : GoodIn wsX3_hasRoomFor (wsV RX3 31 RX3 yX3_endsWith wsX3_endsWith) := goodIn_app (goodIn_of _ (by decide +kernel)) ggX3_hasRoomFor_X3_endsWith
theorem dX3_hasRoomFor_0 : decode cX3_hasRoomFor 0 = .ok (.aload_n 0, 1) := by decide +kernel
theorem dX3_hasRoomFor_1 : decode cX3_hasRoomFor 1 = .ok (.getfield 14, 3) := by decide +kernel
theorem dX3_hasRoomFor_4 : decode cX3_hasRoomFor 4 = .ok (.getfield 24, 3) := by decide +kernel
theorem dX3_hasRoomFor_7 : decode cX3_hasRoomFor 7 = .ok (.iload_n 2, 1) := by decide +kernel
theorem dX3_hasRoomFor_8 : decode cX3_hasRoomFor 8 = .ok (.iadd, 1) := by decide +kernel
theorem dX3_hasRoomFor_9 : decode cX3_hasRoomFor 9 = .ok (.sipush 4000, 3) := by decide +kernel
theorem dX3_hasRoomFor_12 : decode cX3_hasRoomFor 12 = .ok (.if_icmp .gt 27, 3) := by decide +kernel
theorem dX3_hasRoomFor_15 : decode cX3_hasRoomFor 15 = .ok (.aload_n 0, 1) := by decide +kernel
theorem dX3_hasRoomFor_16 : decode cX3_hasRoomFor 16 = .ok (.getfield 14, 3) := by decide +kernel
theorem dX3_hasRoomFor_19 : decode cX3_hasRoomFor 19 = .ok (.getfield 28, 3) := by decide +kernel
theorem dX3_hasRoomFor_22 : decode cX3_hasRoomFor 22 = .ok (.bipush 6, 2) := by decide +kernel
theorem dX3_hasRoomFor_24 : decode cX3_hasRoomFor 24 = .ok (.if_icmp .lt 11, 3) := by decide +kernel
theorem dX3_hasRoomFor_27 : decode cX3_hasRoomFor 27 = .ok (.aload_n 0, 1) := by decide +kernel
theorem dX3_hasRoomFor_28 : decode cX3_hasRoomFor 28 = .ok (.iload_n 1, 1) := by decide +kernel
theorem dX3_hasRoomFor_29 : decode cX3_hasRoomFor 29 = .ok (.invokevirtual 31, 3) := by decide +kernel
theorem dX3_hasRoomFor_32 : decode cX3_hasRoomFor 32 = .ok (.ifCond .eq 7, 3) := by decide +kernel
theorem dX3_hasRoomFor_35 : decode cX3_hasRoomFor 35 = .ok (.iconst 1, 1) := by decide +kernel
theorem dX3_hasRoomFor_36 : decode cX3_hasRoomFor 36 = .ok (.goto 4, 3) := by decide +kernel
theorem dX3_hasRoomFor_39 : decode cX3_hasRoomFor 39 = .ok (.iconst 0, 1) := by decide +kernel
theorem dX3_hasRoomFor_40 : decode cX3_hasRoomFor 40 = .ok (.ireturn, 1) := by decide +kernel
set_option maxRecDepth 20000 in
theorem ggX3_endsWith_X5_markAt : GoodIn wsX3_endsWith wsX5_markAt := goodIn_r _ [6, 7, 8, 10, 11, 12, 13] (by decide +kernel) (by decide +kernel)
set_option maxRecDepth 20000 in
theorem gX3_endsWith_X5_markAt : GoodIn wsX3_endsWith (wsV RX3 35 RX5 yX5_markAt wsX5_markAt) := goodIn_app (goodIn_of _ (by decide +kernel)) ggX3_endsWith_X5_markAt
theorem dX3_endsWith_0 : decode cX3_endsWith 0 = .ok (.aload_n 0, 1) := by decide +kernel
theorem dX3_endsWith_1 : decode cX3_endsWith 1 = .ok (.getfield 14, 3) := by decide +kernel
theorem dX3_endsWith_4 : decode cX3_endsWith 4 = .ok (.getfield 28, 3) := by decide +kernel
theorem dX3_endsWith_7 : decode cX3_endsWith 7 = .ok (.ifCond .le 27, 3) := by decide +kernel
theorem dX3_endsWith_10 : decode cX3_endsWith 10 = .ok (.aload_n 0, 1) := by decide +kernel
theorem dX3_endsWith_11 : decode cX3_endsWith 11 = .ok (.getfield 14, 3) := by decide +kernel
theorem dX3_endsWith_14 : decode cX3_endsWith 14 = .ok (.aload_n 0, 1) := by decide +kernel
theorem dX3_endsWith_15 : decode cX3_endsWith 15 = .ok (.getfield 14, 3) := by decide +kernel
theorem dX3_endsWith_18 : decode cX3_endsWith 18 = .ok (.getfield 28, 3) := by decide +kernel
theorem dX3_endsWith_21 : decode cX3_endsWith 21 = .ok (.iconst 1, 1) := by decide +kernel
theorem dX3_endsWith_22 : decode cX3_endsWith 22 = .ok (.isub, 1) := by decide +kernel
theorem dX3_endsWith_23 : decode cX3_endsWith 23 = .ok (.invokevirtual 35, 3) := by decide +kernel
theorem dX3_endsWith_26 : decode cX3_endsWith 26 = .ok (.iload_n 1, 1) := by decide +kernel
theorem dX3_endsWith_27 : decode cX3_endsWith 27 = .ok (.if_icmp .ne 7, 3) := by decide +kernel
theorem dX3_endsWith_30 : decode cX3_endsWith 30 = .ok (.iconst 1, 1) := by decide +kernel
theorem dX3_endsWith_31 : decode cX3_endsWith 31 = .ok (.goto 4, 3) := by decide +kernel
theorem dX3_endsWith_34 : decode cX3_endsWith 34 = .ok (.iconst 0, 1) := by decide +kernel
theorem dX3_endsWith_35 : decode cX3_endsWith 35 = .ok (.ireturn, 1) := by decide +kernel
set_option maxRecDepth 20000 in
theorem ggX3_pourIn_X3_endsWith : GoodIn wsX3_pourIn wsX3_endsWith := goodIn_r _ [6, 1, 7, 8, 9, 10, 11, 12, 13, 24, 25, 26, 27, 28] (by decide +kernel) (by decide +kernel)
set_option maxRecDepth 20000 in
theorem gX3_pourIn_X3_endsWith : GoodIn wsX3_pourIn (wsV RX3 31 RX3 yX3_endsWith wsX3_endsWith) := goodIn_app (goodIn_of _ (by decide +kernel)) ggX3_pourIn_X3_endsWith
set_option maxRecDepth 20000 in
theorem ggX3_pourIn_X5_addToLast : GoodIn wsX3_pourIn wsX5_addToLast := goodIn_r _ [17, 12, 18, 19, 25, 26, 27, 28] (by decide +kernel) (by decide +kernel)
set_option maxRecDepth 20000 in
theorem gX3_pourIn_X5_addToLast : GoodIn wsX3_pourIn (wsV RX3 39 RX5 yX5_addToLast wsX5_addToLast) := goodIn_app (goodIn_of _ (by decide +kernel)) ggX3_pourIn_X5_addToLast
set_option maxRecDepth 20000 in
theorem ggX3_pourIn_X5_append : GoodIn wsX3_pourIn wsX5_append := goodIn_r _ [23, 12, 18, 13, 19, 25, 26, 27, 28] (by decide +kernel) (by decide +kernel)
set_option maxRecDepth 20000 in
theorem gX3_pourIn_X5_append : GoodIn wsX3_pourIn (wsV RX3 42 RX5 yX5_append wsX5_append) := goodIn_app (goodIn_of _ (by decide +kernel)) ggX3_pourIn_X5_append
theorem dX3_pourIn_0 : decode cX3_pourIn 0 = .ok (.aload_n 0, 1) := by decide +kernel
theorem dX3_pourIn_1 : decode cX3_pourIn 1 = .ok (.iload_n 1, 1) := by decide +kernel
theorem dX3_pourIn_2 : decode cX3_pourIn 2 = .ok (.invokevirtual 31, 3) := by decide +kernel
theorem dX3_pourIn_5 : decode cX3_pourIn 5 = .ok (.ifCond .eq 14, 3) := by decide +kernel
theorem dX3_pourIn_8 : decode cX3_pourIn 8 = .ok (.aload_n 0, 1) := by decide +kernel
theorem dX3_pourIn_9 : decode cX3_pourIn 9 = .ok (.getfield 14, 3) := by decide +kernel
theorem dX3_pourIn_12 : decode cX3_pourIn 12 = .ok (.iload_n 2, 1) := by decide +kernel
theorem dX3_pourIn_13 : decode cX3_pourIn 13 = .ok (.invokevirtual 39, 3) := by decide +kernel
theorem dX3_pourIn_16 : decode cX3_pourIn 16 = .ok (.goto 12, 3) := by decide +kernel
theorem dX3_pourIn_19 : decode cX3_pourIn 19 = .ok (.aload_n 0, 1) := by decide +kernel
theorem dX3_pourIn_20 : decode cX3_pourIn 20 = .ok (.getfield 14, 3) := by decide +kernel
theorem dX3_pourIn_23 : decode cX3_pourIn 23 = .ok (.iload_n 2, 1) := by decide +kernel
theorem dX3_pourIn_24 : decode cX3_pourIn 24 = .ok (.iload_n 1, 1) := by decide +kernel
theorem dX3_pourIn_25 : decode cX3_pourIn 25 = .ok (.invokevirtual 42, 3) := by decide +kernel
theorem dX3_pourIn_28 : decode cX3_pourIn 28 = .ok (.return_, 1) := by decide +kernel
set_option maxRecDepth 20000 in
theorem ggX3_letOut_X7_markOf : GoodIn wsX3_letOut wsX7_markOf := goodIn_r _ [4] (by decide +kernel) (by decide +kernel)
set_option maxRecDepth 20000 in
theorem gX3_letOut_X7_markOf_n46 : GoodIn wsX3_letOut (wsX7_markOf) := ggX3_letOut_X7_markOf
set_option maxRecDepth 20000 in
theorem ggX3_letOut_X5_letOut : GoodIn wsX3_letOut wsX5_letOut := goodIn_r _ [9, 10, 11, 12, 13, 14, 15, 16, 17, 18, 19, 20, 8, 21, 22, 23, 24, 25, 26, 27, 28, 29, 31, 32, 33, 34] (by decide +kernel) (by decide +kernel)
set_option maxRecDepth 20000 in
theorem gX3_letOut_X5_letOut : GoodIn wsX3_letOut (wsV RX3 50 RX5 yX5_letOut wsX5_letOut) := goodIn_app (goodIn_of _ (by decide +kernel)) ggX3_letOut_X5_letOut
theorem dX3_letOut_0 : decode cX3_letOut 0 = .ok (.aload_n 0, 1) := by decide +kernel
theorem dX3_letOut_1 : decode cX3_letOut 1 = .ok (.getfield 14, 3) := by decide +kernel
theorem dX3_letOut_4 : decode cX3_letOut 4 = .ok (.iload_n 1, 1) := by decide +kernel
theorem dX3_letOut_5 : decode cX3_letOut 5 = .ok (.iconst 0, 1) := by decide +kernel
theorem dX3_letOut_6 : decode cX3_letOut 6 = .ok (.iload_n 2, 1) := by decide +kernel
theorem dX3_letOut_7 : decode cX3_letOut 7 = .ok (.iload_n 3, 1) := by decide +kernel
theorem dX3_letOut_8 : decode cX3_letOut 8 = .ok (.invokestatic 46, 3) := by decide +kernel
theorem dX3_letOut_11 : decode cX3_letOut 11 = .ok (.aload 4, 2) := by decide +kernel
theorem dX3_letOut_13 : decode cX3_letOut 13 = .ok (.invokevirtual 50, 3) := by decide +kernel
theorem dX3_letOut_16 : decode cX3_letOut 16 = .ok (.return_, 1) := by decide +kernel
set_option maxRecDepth 20000 in
theorem ggX3_firstKind_X5_markAt : GoodIn wsX3_firstKind wsX5_markAt := goodIn_r _ [6, 7, 8, 10, 11, 12, 13] (by decide +kernel) (by decide +kernel)
set_option maxRecDepth 20000 in
theorem gX3_firstKind_X5_markAt : GoodIn wsX3_firstKind (wsV RX3 35 RX5 yX5_markAt wsX5_markAt) := goodIn_app (goodIn_of _ (by decide +kernel)) ggX3_firstKind_X5_markAt
theorem dX3_firstKind_0 : decode cX3_firstKind 0 = .ok (.aload_n 0, 1) := by decide +kernel
theorem dX3_firstKind_1 : decode cX3_firstKind 1 = .ok (.getfield 14, 3) := by decide +kernel
theorem dX3_firstKind_4 : decode cX3_firstKind 4 = .ok (.iconst 0, 1) := by decide +kernel
theorem dX3_firstKind_5 : decode cX3_firstKind 5 = .ok (.invokevirtual 35, 3) := by decide +kernel
theorem dX3_firstKind_8 : decode cX3_firstKind 8 = .ok (.ireturn, 1) := by decide +kernel
set_option maxRecDepth 20000 in
theorem ggX3_tell_X5_markAt : GoodIn wsX3_tell wsX5_markAt := goodIn_r _ [7, 8, 9, 16, 17, 18, 19] (by decide +kernel) (by decide +kernel)
set_option maxRecDepth 20000 in
theorem gX3_tell_X5_markAt : GoodIn wsX3_tell (wsV RX3 35 RX5 yX5_markAt wsX5_markAt) := goodIn_app (goodIn_of _ (by decide +kernel)) ggX3_tell_X5_markAt
set_option maxRecDepth 20000 in
theorem ggX3_tell_X5_amountAt : GoodIn wsX3_tell wsX5_amountAt := goodIn_r _ [13, 8, 14, 16, 17, 18, 19] (by decide +kernel) (by decide +kernel)
set_option maxRecDepth 20000 in
theorem gX3_tell_X5_amountAt : GoodIn wsX3_tell (wsV RX3 55 RX5 yX5_amountAt wsX5_amountAt) := goodIn_app (goodIn_of _ (by decide +kernel)) ggX3_tell_X5_amountAt
theorem dX3_tell_0 : decode cX3_tell 0 = .ok (.iload_n 1, 1) := by decide +kernel
theorem dX3_tell_1 : decode cX3_tell 1 = .ok (.ifCond .lt 14, 3) := by decide +kernel
theorem dX3_tell_4 : decode cX3_tell 4 = .ok (.iload_n 1, 1) := by decide +kernel
theorem dX3_tell_5 : decode cX3_tell 5 = .ok (.aload_n 0, 1) := by decide +kernel
theorem dX3_tell_6 : decode cX3_tell 6 = .ok (.getfield 14, 3) := by decide +kernel
theorem dX3_tell_9 : decode cX3_tell 9 = .ok (.getfield 28, 3) := by decide +kernel
theorem dX3_tell_12 : decode cX3_tell 12 = .ok (.if_icmp .lt 6, 3) := by decide +kernel
theorem dX3_tell_15 : decode cX3_tell 15 = .ok (.ldc 54, 2) := by decide +kernel
theorem dX3_tell_17 : decode cX3_tell 17 = .ok (.ireturn, 1) := by decide +kernel
theorem dX3_tell_18 : decode cX3_tell 18 = .ok (.iload_n 2, 1) := by decide +kernel
theorem dX3_tell_19 : decode cX3_tell 19 = .ok (.ifCond .ne 14, 3) := by decide +kernel
theorem dX3_tell_22 : decode cX3_tell 22 = .ok (.aload_n 0, 1) := by decide +kernel
theorem dX3_tell_23 : decode cX3_tell 23 = .ok (.getfield 14, 3) := by decide +kernel
theorem dX3_tell_26 : decode cX3_tell 26 = .ok (.iload_n 1, 1) := by decide +kernel
theorem dX3_tell_27 : decode cX3_tell 27 = .ok (.invokevirtual 35, 3) := by decide +kernel
theorem dX3_tell_30 : decode cX3_tell 30 = .ok (.goto 11, 3) := by decide +kernel
theorem dX3_tell_33 : decode cX3_tell 33 = .ok (.aload_n 0, 1) := by decide +kernel
theorem dX3_tell_34 : decode cX3_tell 34 = .ok (.getfield 14, 3) := by decide +kernel
theorem dX3_tell_37 : decode cX3_tell 37 = .ok (.iload_n 1, 1) := by decide +kernel
theorem dX3_tell_38 : decode cX3_tell 38 = .ok (.invokevirtual 55, 3) := by decide +kernel
theorem dX3_tell_41 : decode cX3_tell 41 = .ok (.ireturn, 1) := by decide +kernel
theorem dX4_init_0 : decode cX4_init 0 = .ok (.aload_n 0, 1) := by decide +kernel
theorem dX4_init_1 : decode cX4_init 1 = .ok (.invokespecial 3, 3) := by decide +kernel
theorem dX4_init_4 : decode cX4_init 4 = .ok (.aload_n 0, 1) := by decide +kernel
theorem dX4_init_5 : decode cX4_init 5 = .ok (.bipush 60, 2) := by decide +kernel
theorem dX4_init_7 : decode cX4_init 7 = .ok (.newarray .char, 2) := by decide +kernel
theorem dX4_init_9 : decode cX4_init 9 = .ok (.putfield 9, 3) := by decide +kernel
theorem dX4_init_12 : decode cX4_init 12 = .ok (.return_, 1) := by decide +kernel
theorem dX4_append_0 : decode cX4_append 0 = .ok (.aload_n 0, 1) := by decide +kernel
theorem dX4_append_1 : decode cX4_append 1 = .ok (.getfield 15, 3) := by decide +kernel
theorem dX4_append_4 : decode cX4_append 4 = .ok (.ifCond .lt 12, 3) := by decide +kernel
theorem dX4_append_7 : decode cX4_append 7 = .ok (.aload_n 0, 1) := by decide +kernel
theorem dX4_append_8 : decode cX4_append 8 = .ok (.getfield 15, 3) := by decide +kernel
theorem dX4_append_11 : decode cX4_append 11 = .ok (.bipush 60, 2) := by decide +kernel
theorem dX4_append_13 : decode cX4_append 13 = .ok (.if_icmp .lt 6, 3) := by decide +kernel
theorem dX4_append_16 : decode cX4_append 16 = .ok (.ldc 19, 2) := by decide +kernel
theorem dX4_append_18 : decode cX4_append 18 = .ok (.ireturn, 1) := by decide +kernel
theorem dX4_append_19 : decode cX4_append 19 = .ok (.aload_n 0, 1) := by decide +kernel
theorem dX4_append_20 : decode cX4_append 20 = .ok (.getfield 9, 3) := by decide +kernel
theorem dX4_append_23 : decode cX4_append 23 = .ok (.aload_n 0, 1) := by decide +kernel
theorem dX4_append_24 : decode cX4_append 24 = .ok (.getfield 15, 3) := by decide +kernel
theorem dX4_append_27 : decode cX4_append 27 = .ok (.iload_n 1, 1) := by decide +kernel
theorem dX4_append_28 : decode cX4_append 28 = .ok (.castore, 1) := by decide +kernel
theorem dX4_append_29 : decode cX4_append 29 = .ok (.aload_n 0, 1) := by decide +kernel
theorem dX4_append_30 : decode cX4_append 30 = .ok (.dup, 1) := by decide +kernel
theorem dX4_append_31 : decode cX4_append 31 = .ok (.getfield 15, 3) := by decide +kernel
theorem dX4_append_34 : decode cX4_append 34 = .ok (.iconst 1, 1) := by decide +kernel
theorem dX4_append_35 : decode cX4_append 35 = .ok (.iadd, 1) := by decide +kernel
theorem dX4_append_36 : decode cX4_append 36 = .ok (.putfield 15, 3) := by decide +kernel
theorem dX4_append_39 : decode cX4_append 39 = .ok (.aload_n 0, 1) := by decide +kernel
theorem dX4_append_40 : decode cX4_append 40 = .ok (.getfield 15, 3) := by decide +kernel
theorem dX4_append_43 : decode cX4_append 43 = .ok (.ireturn, 1) := by decide +kernel
theorem dX4_hasFault_0 : decode cX4_hasFault 0 = .ok (.aload_n 0, 1) := by decide +kernel
theorem dX4_hasFault_1 : decode cX4_hasFault 1 = .ok (.getfield 20, 3) := by decide +kernel
theorem dX4_hasFault_4 : decode cX4_hasFault 4 = .ok (.ifCond .eq 7, 3) := by decide +kernel
theorem dX4_hasFault_7 : decode cX4_hasFault 7 = .ok (.iconst 1, 1) := by decide +kernel
theorem dX4_hasFault_8 : decode cX4_hasFault 8 = .ok (.goto 4, 3) := by decide +kernel
theorem dX4_hasFault_11 : decode cX4_hasFault 11 = .ok (.iconst 0, 1) := by decide +kernel
theorem dX4_hasFault_12 : decode cX4_hasFault 12 = .ok (.ireturn, 1) := by decide +kernel
set_option maxRecDepth 20000 in
theorem ggX4_tellFault_X4_hasFault : GoodIn wsX4_tellFault wsX4_hasFault := goodIn_r _ [9, 3, 10, 11, 12, 13, 14, 15, 16, 17, 18, 19] (by decide +kernel) (by decide +kernel)
set_option maxRecDepth 20000 in
theorem gX4_tellFault_X4_hasFault : GoodIn wsX4_tellFault (wsV RX4 23 RX4 yX4_hasFault wsX4_hasFault) := goodIn_app (goodIn_of _ (by decide +kernel)) ggX4_tellFault_X4_hasFault
theorem dX4_tellFault_0 : decode cX4_tellFault 0 = .ok (.aload_n 0, 1) := by decide +kernel
theorem dX4_tellFault_1 : decode cX4_tellFault 1 = .ok (.invokevirtual 23, 3) := by decide +kernel
theorem dX4_tellFault_4 : decode cX4_tellFault 4 = .ok (.ifCond .ne 6, 3) := by decide +kernel
theorem dX4_tellFault_7 : decode cX4_tellFault 7 = .ok (.ldc 27, 2) := by decide +kernel
theorem dX4_tellFault_9 : decode cX4_tellFault 9 = .ok (.ireturn, 1) := by decide +kernel
theorem dX4_tellFault_10 : decode cX4_tellFault 10 = .ok (.iload_n 1, 1) := by decide +kernel
theorem dX4_tellFault_11 : decode cX4_tellFault 11 = .ok (.lookupswitch 35 #[(0, 25), (1, 30)], 25) := by decide +kernel
theorem dX4_tellFault_36 : decode cX4_tellFault 36 = .ok (.aload_n 0, 1) := by decide +kernel
theorem dX4_tellFault_37 : decode cX4_tellFault 37 = .ok (.getfield 28, 3) := by decide +kernel
theorem dX4_tellFault_40 : decode cX4_tellFault 40 = .ok (.ireturn, 1) := by decide +kernel
theorem dX4_tellFault_41 : decode cX4_tellFault 41 = .ok (.aload_n 0, 1) := by decide +kernel
theorem dX4_tellFault_42 : decode cX4_tellFault 42 = .ok (.getfield 20, 3) := by decide +kernel
theorem dX4_tellFault_45 : decode cX4_tellFault 45 = .ok (.ireturn, 1) := by decide +kernel
theorem dX4_tellFault_46 : decode cX4_tellFault 46 = .ok (.aload_n 0, 1) := by decide +kernel
theorem dX4_tellFault_47 : decode cX4_tellFault 47 = .ok (.getfield 31, 3) := by decide +kernel
theorem dX4_tellFault_50 : decode cX4_tellFault 50 = .ok (.ireturn, 1) := by decide +kernel
set_option maxRecDepth 20000 in
theorem ggX4_doAllOn_X4_readOrder : GoodIn wsX4_doAllOn wsX4_readOrder := goodIn_r _ [9, 10, 2, 11, 12, 13, 8, 14, 4, 15, 16, 17, 18, 19, 20, 21, 22, 23, 24, 25, 26, 27, 28, 29, 30, 31, 32, 33, 34, 35, 36, 37, 38, 39, 40, 239, 240, 241, 242, 243, 244, 245, 246, 247, 248] (by decide +kernel) (by decide +kernel)
set_option maxRecDepth 20000 in
theorem gX4_doAllOn_X4_readOrder : GoodIn wsX4_doAllOn (wsV RX4 40 RX4 yX4_readOrder wsX4_readOrder) := goodIn_app (goodIn_of _ (by decide +kernel)) ggX4_doAllOn_X4_readOrder
set_option maxRecDepth 20000 in
theorem ggX4_doAllOn_X4_blame : GoodIn wsX4_doAllOn wsX4_blame := goodIn_r _ [44, 45, 1, 46, 239, 240, 241, 242, 243, 244, 245, 246, 247, 248] (by decide +kernel) (by decide +kernel)
set_option maxRecDepth 20000 in
theorem gX4_doAllOn_X4_blame : GoodIn wsX4_doAllOn (wsV RX4 43 RX4 yX4_blame wsX4_blame) := goodIn_app (goodIn_of _ (by decide +kernel)) ggX4_doAllOn_X4_blame
set_option maxRecDepth 20000 in
theorem ggX4_doAllOn_X4_doOrderOn : GoodIn wsX4_doAllOn wsX4_doOrderOn := goodIn_r _ [50, 10, 20, 40, 51, 52, 53, 54, 55, 56, 57, 58, 59, 60, 61, 62, 63, 64, 65, 66, 67, 68, 69, 70, 71, 72, 73, 74, 75, 76, 77, 78, 79, 80, 81, 82, 83, 84, 85, 86, 87, 88, 89, 90, 91, 92, 93, 94, 95, 96, 97, 98, 99, 100, 101, 102, 103, 104, 105, 26, 27, 28, 106, 107, 108, 109, 110, 111, 112, 113, 114, 115, 116, 117, 118, 119, 120, 121, 122, 123, 124, 125, 126, 127, 128, 129, 130, 131, 132, 133, 134, 135, 136, 137, 138, 139, 140, 141, 142, 143, 144, 145, 146, 147, 148, 149, 150, 151, 152, 153, 154, 155, 156, 157, 158, 159, 160, 161, 162, 163, 164, 165, 166, 167, 168, 169, 170, 171, 172, 173, 174, 175, 176, 177, 178, 179, 180, 181, 182, 183, 184, 185, 186, 187, 188, 189, 190, 191, 192, 193, 194, 195, 196, 197, 198, 199, 200, 201, 202, 203, 204, 205, 206, 207, 208, 209, 210, 211, 212, 213, 214, 215, 216, 217, 218, 219, 220, 221, 222, 223, 224, 225, 226, 227, 228, 229, 230, 231, 232, 233, 234, 235, 236, 237, 238, 239, 240, 241, 242, 243, 244, 245, 246, 247, 248, 249, 250, 251, 252, 253, 254, 255, 256, 257, 258, 259, 260, 261, 262, 263, 264, 265, 266, 267, 268, 269, 270, 271, 272, 273] (by decide +kernel) (by decide +kernel)
set_option maxRecDepth 20000 in
theorem gX4_doAllOn_X4_doOrderOn : GoodIn wsX4_doAllOn (wsV RX4 47 RX4 yX4_doOrderOn wsX4_doOrderOn) := goodIn_app (goodIn_of _ (by decide +kernel)) ggX4_doAllOn_X4_doOrderOn
theorem dX4_doAllOn_0 : decode cX4_doAllOn 0 = .ok (.aload_n 0, 1) := by decide +kernel
theorem dX4_doAllOn_1 : decode cX4_doAllOn 1 = .ok (.iconst 0, 1) := by decide +kernel
theorem dX4_doAllOn_2 : decode cX4_doAllOn 2 = .ok (.putfield 20, 3) := by decide +kernel
theorem dX4_doAllOn_5 : decode cX4_doAllOn 5 = .ok (.aload_n 0, 1) := by decide +kernel
theorem dX4_doAllOn_6 : decode cX4_doAllOn 6 = .ok (.iconst 0, 1) := by decide +kernel
theorem dX4_doAllOn_7 : decode cX4_doAllOn 7 = .ok (.putfield 34, 3) := by decide +kernel
theorem dX4_doAllOn_10 : decode cX4_doAllOn 10 = .ok (.aload_n 0, 1) := by decide +kernel
theorem dX4_doAllOn_11 : decode cX4_doAllOn 11 = .ok (.iconst 0, 1) := by decide +kernel
theorem dX4_doAllOn_12 : decode cX4_doAllOn 12 = .ok (.putfield 37, 3) := by decide +kernel
theorem dX4_doAllOn_15 : decode cX4_doAllOn 15 = .ok (.aload_n 0, 1) := by decide +kernel
theorem dX4_doAllOn_16 : decode cX4_doAllOn 16 = .ok (.getfield 37, 3) := by decide +kernel
theorem dX4_doAllOn_19 : decode cX4_doAllOn 19 = .ok (.bipush 60, 2) := by decide +kernel
theorem dX4_doAllOn_21 : decode cX4_doAllOn 21 = .ok (.if_icmp .ge 70, 3) := by decide +kernel
theorem dX4_doAllOn_24 : decode cX4_doAllOn 24 = .ok (.aload_n 0, 1) := by decide +kernel
theorem dX4_doAllOn_25 : decode cX4_doAllOn 25 = .ok (.getfield 34, 3) := by decide +kernel
theorem dX4_doAllOn_28 : decode cX4_doAllOn 28 = .ok (.aload_n 0, 1) := by decide +kernel
theorem dX4_doAllOn_29 : decode cX4_doAllOn 29 = .ok (.getfield 15, 3) := by decide +kernel
theorem dX4_doAllOn_32 : decode cX4_doAllOn 32 = .ok (.if_icmp .ge 59, 3) := by decide +kernel
theorem dX4_doAllOn_35 : decode cX4_doAllOn 35 = .ok (.aload_n 0, 1) := by decide +kernel
theorem dX4_doAllOn_36 : decode cX4_doAllOn 36 = .ok (.getfield 34, 3) := by decide +kernel
theorem dX4_doAllOn_39 : decode cX4_doAllOn 39 = .ok (.istore_n 2, 1) := by decide +kernel
theorem dX4_doAllOn_40 : decode cX4_doAllOn 40 = .ok (.aload_n 0, 1) := by decide +kernel
theorem dX4_doAllOn_41 : decode cX4_doAllOn 41 = .ok (.invokevirtual 40, 3) := by decide +kernel
theorem dX4_doAllOn_44 : decode cX4_doAllOn 44 = .ok (.ifCond .ne 16, 3) := by decide +kernel
theorem dX4_doAllOn_47 : decode cX4_doAllOn 47 = .ok (.aload_n 0, 1) := by decide +kernel
theorem dX4_doAllOn_48 : decode cX4_doAllOn 48 = .ok (.iload_n 2, 1) := by decide +kernel
theorem dX4_doAllOn_49 : decode cX4_doAllOn 49 = .ok (.iconst 1, 1) := by decide +kernel
theorem dX4_doAllOn_50 : decode cX4_doAllOn 50 = .ok (.aload_n 0, 1) := by decide +kernel
theorem dX4_doAllOn_51 : decode cX4_doAllOn 51 = .ok (.getfield 34, 3) := by decide +kernel
theorem dX4_doAllOn_54 : decode cX4_doAllOn 54 = .ok (.iload_n 2, 1) := by decide +kernel
theorem dX4_doAllOn_55 : decode cX4_doAllOn 55 = .ok (.isub, 1) := by decide +kernel
theorem dX4_doAllOn_56 : decode cX4_doAllOn 56 = .ok (.invokevirtual 43, 3) := by decide +kernel
theorem dX4_doAllOn_59 : decode cX4_doAllOn 59 = .ok (.return_, 1) := by decide +kernel
theorem dX4_doAllOn_60 : decode cX4_doAllOn 60 = .ok (.aload_n 0, 1) := by decide +kernel
theorem dX4_doAllOn_61 : decode cX4_doAllOn 61 = .ok (.aload_n 1, 1) := by decide +kernel
theorem dX4_doAllOn_62 : decode cX4_doAllOn 62 = .ok (.invokevirtual 47, 3) := by decide +kernel
theorem dX4_doAllOn_65 : decode cX4_doAllOn 65 = .ok (.istore_n 3, 1) := by decide +kernel
theorem dX4_doAllOn_66 : decode cX4_doAllOn 66 = .ok (.iload_n 3, 1) := by decide +kernel
theorem dX4_doAllOn_67 : decode cX4_doAllOn 67 = .ok (.ifCond .ge 11, 3) := by decide +kernel
theorem dX4_doAllOn_70 : decode cX4_doAllOn 70 = .ok (.aload_n 0, 1) := by decide +kernel
theorem dX4_doAllOn_71 : decode cX4_doAllOn 71 = .ok (.iload_n 2, 1) := by decide +kernel
theorem dX4_doAllOn_72 : decode cX4_doAllOn 72 = .ok (.iconst 2, 1) := by decide +kernel
theorem dX4_doAllOn_73 : decode cX4_doAllOn 73 = .ok (.iload_n 3, 1) := by decide +kernel
theorem dX4_doAllOn_74 : decode cX4_doAllOn 74 = .ok (.invokevirtual 43, 3) := by decide +kernel
theorem dX4_doAllOn_77 : decode cX4_doAllOn 77 = .ok (.return_, 1) := by decide +kernel
theorem dX4_doAllOn_78 : decode cX4_doAllOn 78 = .ok (.aload_n 0, 1) := by decide +kernel
theorem dX4_doAllOn_79 : decode cX4_doAllOn 79 = .ok (.dup, 1) := by decide +kernel
theorem dX4_doAllOn_80 : decode cX4_doAllOn 80 = .ok (.getfield 37, 3) := by decide +kernel
theorem dX4_doAllOn_83 : decode cX4_doAllOn 83 = .ok (.iconst 1, 1) := by decide +kernel
theorem dX4_doAllOn_84 : decode cX4_doAllOn 84 = .ok (.iadd, 1) := by decide +kernel
theorem dX4_doAllOn_85 : decode cX4_doAllOn 85 = .ok (.putfield 37, 3) := by decide +kernel
theorem dX4_doAllOn_88 : decode cX4_doAllOn 88 = .ok (.goto (-73), 3) := by decide +kernel
theorem dX4_doAllOn_91 : decode cX4_doAllOn 91 = .ok (.return_, 1) := by decide +kernel
theorem dX4_blame_0 : decode cX4_blame 0 = .ok (.aload_n 0, 1) := by decide +kernel
theorem dX4_blame_1 : decode cX4_blame 1 = .ok (.iload_n 1, 1) := by decide +kernel
theorem dX4_blame_2 : decode cX4_blame 2 = .ok (.putfield 28, 3) := by decide +kernel
theorem dX4_blame_5 : decode cX4_blame 5 = .ok (.aload_n 0, 1) := by decide +kernel
theorem dX4_blame_6 : decode cX4_blame 6 = .ok (.iload_n 2, 1) := by decide +kernel
theorem dX4_blame_7 : decode cX4_blame 7 = .ok (.putfield 20, 3) := by decide +kernel
theorem dX4_blame_10 : decode cX4_blame 10 = .ok (.aload_n 0, 1) := by decide +kernel
theorem dX4_blame_11 : decode cX4_blame 11 = .ok (.iload_n 3, 1) := by decide +kernel
theorem dX4_blame_12 : decode cX4_blame 12 = .ok (.putfield 31, 3) := by decide +kernel
theorem dX4_blame_15 : decode cX4_blame 15 = .ok (.return_, 1) := by decide +kernel
set_option maxRecDepth 20000 in
theorem ggX4_readOrder_X4_signHere : GoodIn wsX4_readOrder wsX4_signHere := goodIn_r _ [7, 2, 8, 9, 35, 36, 37, 38, 39, 40, 41, 42, 43, 44] (by decide +kernel) (by decide +kernel)
set_option maxRecDepth 20000 in
theorem gX4_readOrder_X4_signHere : GoodIn wsX4_readOrder (wsV RX4 51 RX4 yX4_signHere wsX4_signHere) := goodIn_app (goodIn_of _ (by decide +kernel)) ggX4_readOrder_X4_signHere
set_option maxRecDepth 20000 in
theorem ggX4_readOrder_X4_readFirstNumber : GoodIn wsX4_readOrder wsX4_readFirstNumber := goodIn_r _ [13, 14, 15, 16, 17, 6, 18, 19, 20, 21, 22, 2, 3, 4, 5, 7, 8, 9, 23, 24, 25, 35, 36, 37, 38, 39, 40, 41, 42, 43, 44] (by decide +kernel) (by decide +kernel)
set_option maxRecDepth 20000 in
theorem gX4_readOrder_X4_readFirstNumber : GoodIn wsX4_readOrder (wsV RX4 59 RX4 yX4_readFirstNumber wsX4_readFirstNumber) := goodIn_app (goodIn_of _ (by decide +kernel)) ggX4_readOrder_X4_readFirstNumber
set_option maxRecDepth 20000 in
theorem ggX4_readOrder_X4_passSign : GoodIn wsX4_readOrder wsX4_passSign := goodIn_r _ [29, 2, 3, 4, 5, 6, 7, 8, 9, 35, 36, 37, 38, 39, 40, 41, 42, 43, 44] (by decide +kernel) (by decide +kernel)
set_option maxRecDepth 20000 in
theorem gX4_readOrder_X4_passSign : GoodIn wsX4_readOrder (wsV RX4 62 RX4 yX4_passSign wsX4_passSign) := goodIn_app (goodIn_of _ (by decide +kernel)) ggX4_readOrder_X4_passSign
set_option maxRecDepth 20000 in
theorem ggX4_readOrder_X4_readSecondNumber : GoodIn wsX4_readOrder wsX4_readSecondNumber := goodIn_r _ [33, 34, 15, 16, 17, 6, 18, 19, 20, 21, 22, 2, 3, 4, 5, 7, 8, 9, 23, 24, 25, 35, 36, 37, 38, 39, 40, 41, 42, 43, 44] (by decide +kernel) (by decide +kernel)
set_option maxRecDepth 20000 in
theorem gX4_readOrder_X4_readSecondNumber : GoodIn wsX4_readOrder (wsV RX4 66 RX4 yX4_readSecondNumber wsX4_readSecondNumber) := goodIn_app (goodIn_of _ (by decide +kernel)) ggX4_readOrder_X4_readSecondNumber
theorem dX4_readOrder_0 : decode cX4_readOrder 0 = .ok (.aload_n 0, 1) := by decide +kernel
theorem dX4_readOrder_1 : decode cX4_readOrder 1 = .ok (.aload_n 0, 1) := by decide +kernel
theorem dX4_readOrder_2 : decode cX4_readOrder 2 = .ok (.invokevirtual 51, 3) := by decide +kernel
theorem dX4_readOrder_5 : decode cX4_readOrder 5 = .ok (.putfield 55, 3) := by decide +kernel
theorem dX4_readOrder_8 : decode cX4_readOrder 8 = .ok (.aload_n 0, 1) := by decide +kernel
theorem dX4_readOrder_9 : decode cX4_readOrder 9 = .ok (.getfield 55, 3) := by decide +kernel
theorem dX4_readOrder_12 : decode cX4_readOrder 12 = .ok (.lookupswitch 157 #[(98, 60), (102, 60), (103, 60), (112, 140), (115, 140), (119, 108)], 60) := by decide +kernel
theorem dX4_readOrder_72 : decode cX4_readOrder 72 = .ok (.aload_n 0, 1) := by decide +kernel
theorem dX4_readOrder_73 : decode cX4_readOrder 73 = .ok (.dup, 1) := by decide +kernel
theorem dX4_readOrder_74 : decode cX4_readOrder 74 = .ok (.getfield 34, 3) := by decide +kernel
theorem dX4_readOrder_77 : decode cX4_readOrder 77 = .ok (.iconst 1, 1) := by decide +kernel
theorem dX4_readOrder_78 : decode cX4_readOrder 78 = .ok (.iadd, 1) := by decide +kernel
theorem dX4_readOrder_79 : decode cX4_readOrder 79 = .ok (.putfield 34, 3) := by decide +kernel
theorem dX4_readOrder_82 : decode cX4_readOrder 82 = .ok (.aload_n 0, 1) := by decide +kernel
theorem dX4_readOrder_83 : decode cX4_readOrder 83 = .ok (.invokevirtual 59, 3) := by decide +kernel
theorem dX4_readOrder_86 : decode cX4_readOrder 86 = .ok (.ifCond .eq 32, 3) := by decide +kernel
theorem dX4_readOrder_89 : decode cX4_readOrder 89 = .ok (.aload_n 0, 1) := by decide +kernel
theorem dX4_readOrder_90 : decode cX4_readOrder 90 = .ok (.bipush 44, 2) := by decide +kernel
theorem dX4_readOrder_92 : decode cX4_readOrder 92 = .ok (.invokevirtual 62, 3) := by decide +kernel
theorem dX4_readOrder_95 : decode cX4_readOrder 95 = .ok (.ifCond .eq 23, 3) := by decide +kernel
theorem dX4_readOrder_98 : decode cX4_readOrder 98 = .ok (.aload_n 0, 1) := by decide +kernel
theorem dX4_readOrder_99 : decode cX4_readOrder 99 = .ok (.invokevirtual 66, 3) := by decide +kernel
theorem dX4_readOrder_102 : decode cX4_readOrder 102 = .ok (.ifCond .eq 16, 3) := by decide +kernel
theorem dX4_readOrder_105 : decode cX4_readOrder 105 = .ok (.aload_n 0, 1) := by decide +kernel
theorem dX4_readOrder_106 : decode cX4_readOrder 106 = .ok (.bipush 59, 2) := by decide +kernel
theorem dX4_readOrder_108 : decode cX4_readOrder 108 = .ok (.invokevirtual 62, 3) := by decide +kernel
theorem dX4_readOrder_111 : decode cX4_readOrder 111 = .ok (.ifCond .eq 7, 3) := by decide +kernel
theorem dX4_readOrder_114 : decode cX4_readOrder 114 = .ok (.iconst 1, 1) := by decide +kernel
theorem dX4_readOrder_115 : decode cX4_readOrder 115 = .ok (.goto 4, 3) := by decide +kernel
theorem dX4_readOrder_118 : decode cX4_readOrder 118 = .ok (.iconst 0, 1) := by decide +kernel
theorem dX4_readOrder_119 : decode cX4_readOrder 119 = .ok (.ireturn, 1) := by decide +kernel
theorem dX4_readOrder_120 : decode cX4_readOrder 120 = .ok (.aload_n 0, 1) := by decide +kernel
theorem dX4_readOrder_121 : decode cX4_readOrder 121 = .ok (.dup, 1) := by decide +kernel
theorem dX4_readOrder_122 : decode cX4_readOrder 122 = .ok (.getfield 34, 3) := by decide +kernel
theorem dX4_readOrder_125 : decode cX4_readOrder 125 = .ok (.iconst 1, 1) := by decide +kernel
theorem dX4_readOrder_126 : decode cX4_readOrder 126 = .ok (.iadd, 1) := by decide +kernel
theorem dX4_readOrder_127 : decode cX4_readOrder 127 = .ok (.putfield 34, 3) := by decide +kernel
theorem dX4_readOrder_130 : decode cX4_readOrder 130 = .ok (.aload_n 0, 1) := by decide +kernel
theorem dX4_readOrder_131 : decode cX4_readOrder 131 = .ok (.invokevirtual 59, 3) := by decide +kernel
theorem dX4_readOrder_134 : decode cX4_readOrder 134 = .ok (.ifCond .eq 16, 3) := by decide +kernel
theorem dX4_readOrder_137 : decode cX4_readOrder 137 = .ok (.aload_n 0, 1) := by decide +kernel
theorem dX4_readOrder_138 : decode cX4_readOrder 138 = .ok (.bipush 59, 2) := by decide +kernel
theorem dX4_readOrder_140 : decode cX4_readOrder 140 = .ok (.invokevirtual 62, 3) := by decide +kernel
theorem dX4_readOrder_143 : decode cX4_readOrder 143 = .ok (.ifCond .eq 7, 3) := by decide +kernel
theorem dX4_readOrder_146 : decode cX4_readOrder 146 = .ok (.iconst 1, 1) := by decide +kernel
theorem dX4_readOrder_147 : decode cX4_readOrder 147 = .ok (.goto 4, 3) := by decide +kernel
theorem dX4_readOrder_150 : decode cX4_readOrder 150 = .ok (.iconst 0, 1) := by decide +kernel
theorem dX4_readOrder_151 : decode cX4_readOrder 151 = .ok (.ireturn, 1) := by decide +kernel
theorem dX4_readOrder_152 : decode cX4_readOrder 152 = .ok (.aload_n 0, 1) := by decide +kernel
theorem dX4_readOrder_153 : decode cX4_readOrder 153 = .ok (.dup, 1) := by decide +kernel
theorem dX4_readOrder_154 : decode cX4_readOrder 154 = .ok (.getfield 34, 3) := by decide +kernel
theorem dX4_readOrder_157 : decode cX4_readOrder 157 = .ok (.iconst 1, 1) := by decide +kernel
theorem dX4_readOrder_158 : decode cX4_readOrder 158 = .ok (.iadd, 1) := by decide +kernel
theorem dX4_readOrder_159 : decode cX4_readOrder 159 = .ok (.putfield 34, 3) := by decide +kernel
theorem dX4_readOrder_162 : decode cX4_readOrder 162 = .ok (.aload_n 0, 1) := by decide +kernel
theorem dX4_readOrder_163 : decode cX4_readOrder 163 = .ok (.bipush 59, 2) := by decide +kernel
theorem dX4_readOrder_165 : decode cX4_readOrder 165 = .ok (.invokevirtual 62, 3) := by decide +kernel
theorem dX4_readOrder_168 : decode cX4_readOrder 168 = .ok (.ireturn, 1) := by decide +kernel
theorem dX4_readOrder_169 : decode cX4_readOrder 169 = .ok (.iconst 0, 1) := by decide +kernel
theorem dX4_readOrder_170 : decode cX4_readOrder 170 = .ok (.ireturn, 1) := by decide +kernel
set_option maxRecDepth 20000 in
theorem ggX4_readFirstNumber_X4_readNumber : GoodIn wsX4_readFirstNumber wsX4_readNumber := goodIn_r _ [6, 7, 8, 9, 10, 11, 12, 13, 14, 5, 15, 16, 17, 18, 19, 20, 21, 22, 23, 24, 25, 26, 27, 28, 29, 30] (by decide +kernel) (by decide +kernel)
set_option maxRecDepth 20000 in
theorem gX4_readFirstNumber_X4_readNumber : GoodIn wsX4_readFirstNumber (wsV RX4 69 RX4 yX4_readNumber wsX4_readNumber) := goodIn_app (goodIn_of _ (by decide +kernel)) ggX4_readFirstNumber_X4_readNumber
theorem dX4_readFirstNumber_0 : decode cX4_readFirstNumber 0 = .ok (.aload_n 0, 1) := by decide +kernel
theorem dX4_readFirstNumber_1 : decode cX4_readFirstNumber 1 = .ok (.aload_n 0, 1) := by decide +kernel
theorem dX4_readFirstNumber_2 : decode cX4_readFirstNumber 2 = .ok (.invokevirtual 69, 3) := by decide +kernel
theorem dX4_readFirstNumber_5 : decode cX4_readFirstNumber 5 = .ok (.putfield 73, 3) := by decide +kernel
theorem dX4_readFirstNumber_8 : decode cX4_readFirstNumber 8 = .ok (.aload_n 0, 1) := by decide +kernel
theorem dX4_readFirstNumber_9 : decode cX4_readFirstNumber 9 = .ok (.getfield 73, 3) := by decide +kernel
theorem dX4_readFirstNumber_12 : decode cX4_readFirstNumber 12 = .ok (.iconst (-1), 1) := by decide +kernel
theorem dX4_readFirstNumber_13 : decode cX4_readFirstNumber 13 = .ok (.if_icmp .eq 7, 3) := by decide +kernel
theorem dX4_readFirstNumber_16 : decode cX4_readFirstNumber 16 = .ok (.iconst 1, 1) := by decide +kernel
theorem dX4_readFirstNumber_17 : decode cX4_readFirstNumber 17 = .ok (.goto 4, 3) := by decide +kernel
theorem dX4_readFirstNumber_20 : decode cX4_readFirstNumber 20 = .ok (.iconst 0, 1) := by decide +kernel
theorem dX4_readFirstNumber_21 : decode cX4_readFirstNumber 21 = .ok (.ireturn, 1) := by decide +kernel
set_option maxRecDepth 20000 in
theorem ggX4_readSecondNumber_X4_readNumber : GoodIn wsX4_readSecondNumber wsX4_readNumber := goodIn_r _ [6, 7, 8, 9, 10, 11, 12, 13, 14, 5, 15, 16, 17, 18, 19, 20, 21, 22, 23, 24, 25, 26, 27, 28, 29, 30] (by decide +kernel) (by decide +kernel)
set_option maxRecDepth 20000 in
theorem gX4_readSecondNumber_X4_readNumber : GoodIn wsX4_readSecondNumber (wsV RX4 69 RX4 yX4_readNumber wsX4_readNumber) := goodIn_app (goodIn_of _ (by decide +kernel)) ggX4_readSecondNumber_X4_readNumber
theorem dX4_readSecondNumber_0 : decode cX4_readSecondNumber 0 = .ok (.aload_n 0, 1) := by decide +kernel
theorem dX4_readSecondNumber_1 : decode cX4_readSecondNumber 1 = .ok (.aload_n 0, 1) := by decide +kernel
theorem dX4_readSecondNumber_2 : decode cX4_readSecondNumber 2 = .ok (.invokevirtual 69, 3) := by decide +kernel
theorem dX4_readSecondNumber_5 : decode cX4_readSecondNumber 5 = .ok (.putfield 76, 3) := by decide +kernel
theorem dX4_readSecondNumber_8 : decode cX4_readSecondNumber 8 = .ok (.aload_n 0, 1) := by decide +kernel
theorem dX4_readSecondNumber_9 : decode cX4_readSecondNumber 9 = .ok (.getfield 76, 3) := by decide +kernel
theorem dX4_readSecondNumber_12 : decode cX4_readSecondNumber 12 = .ok (.iconst (-1), 1) := by decide +kernel
theorem dX4_readSecondNumber_13 : decode cX4_readSecondNumber 13 = .ok (.if_icmp .eq 7, 3) := by decide +kernel
theorem dX4_readSecondNumber_16 : decode cX4_readSecondNumber 16 = .ok (.iconst 1, 1) := by decide +kernel
theorem dX4_readSecondNumber_17 : decode cX4_readSecondNumber 17 = .ok (.goto 4, 3) := by decide +kernel
theorem dX4_readSecondNumber_20 : decode cX4_readSecondNumber 20 = .ok (.iconst 0, 1) := by decide +kernel
theorem dX4_readSecondNumber_21 : decode cX4_readSecondNumber 21 = .ok (.ireturn, 1) := by decide +kernel
set_option maxRecDepth 20000 in
theorem ggX4_readNumber_X4_signHere : GoodIn wsX4_readNumber wsX4_signHere := goodIn_r _ [10, 5, 11, 12, 16, 17, 18, 19, 20, 21, 22, 23, 24, 25] (by decide +kernel) (by decide +kernel)
set_option maxRecDepth 20000 in
theorem gX4_readNumber_X4_signHere : GoodIn wsX4_readNumber (wsV RX4 51 RX4 yX4_signHere wsX4_signHere) := goodIn_app (goodIn_of _ (by decide +kernel)) ggX4_readNumber_X4_signHere
set_option maxRecDepth 20000 in
theorem ggX4_readNumber_X4_isDigit : GoodIn wsX4_readNumber wsX4_isDigit := goodIn_r _ [15] (by decide +kernel) (by decide +kernel)
set_option maxRecDepth 20000 in
theorem gX4_readNumber_X4_isDigit : GoodIn wsX4_readNumber (va_wsS RX4 79 yX4_isDigit wsX4_isDigit) := goodIn_app (goodIn_of _ (by decide +kernel)) ggX4_readNumber_X4_isDigit
theorem dX4_readNumber_0 : decode cX4_readNumber 0 = .ok (.iconst (-1), 1) := by decide +kernel
theorem dX4_readNumber_1 : decode cX4_readNumber 1 = .ok (.istore_n 1, 1) := by decide +kernel
theorem dX4_readNumber_2 : decode cX4_readNumber 2 = .ok (.iconst 0, 1) := by decide +kernel
theorem dX4_readNumber_3 : decode cX4_readNumber 3 = .ok (.istore_n 2, 1) := by decide +kernel
theorem dX4_readNumber_4 : decode cX4_readNumber 4 = .ok (.iload_n 2, 1) := by decide +kernel
theorem dX4_readNumber_5 : decode cX4_readNumber 5 = .ok (.iconst 3, 1) := by decide +kernel
theorem dX4_readNumber_6 : decode cX4_readNumber 6 = .ok (.if_icmp .ge 46, 3) := by decide +kernel
theorem dX4_readNumber_9 : decode cX4_readNumber 9 = .ok (.aload_n 0, 1) := by decide +kernel
theorem dX4_readNumber_10 : decode cX4_readNumber 10 = .ok (.invokevirtual 51, 3) := by decide +kernel
theorem dX4_readNumber_13 : decode cX4_readNumber 13 = .ok (.invokestatic 79, 3) := by decide +kernel
theorem dX4_readNumber_16 : decode cX4_readNumber 16 = .ok (.ifCond .eq 36, 3) := by decide +kernel
theorem dX4_readNumber_19 : decode cX4_readNumber 19 = .ok (.iconst 0, 1) := by decide +kernel
theorem dX4_readNumber_20 : decode cX4_readNumber 20 = .ok (.iload_n 1, 1) := by decide +kernel
theorem dX4_readNumber_21 : decode cX4_readNumber 21 = .ok (.invokestatic 82, 3) := by decide +kernel
theorem dX4_readNumber_24 : decode cX4_readNumber 24 = .ok (.bipush 10, 2) := by decide +kernel
theorem dX4_readNumber_26 : decode cX4_readNumber 26 = .ok (.imul, 1) := by decide +kernel
theorem dX4_readNumber_27 : decode cX4_readNumber 27 = .ok (.aload_n 0, 1) := by decide +kernel
theorem dX4_readNumber_28 : decode cX4_readNumber 28 = .ok (.invokevirtual 51, 3) := by decide +kernel
theorem dX4_readNumber_31 : decode cX4_readNumber 31 = .ok (.bipush 48, 2) := by decide +kernel
theorem dX4_readNumber_33 : decode cX4_readNumber 33 = .ok (.isub, 1) := by decide +kernel
theorem dX4_readNumber_34 : decode cX4_readNumber 34 = .ok (.iadd, 1) := by decide +kernel
theorem dX4_readNumber_35 : decode cX4_readNumber 35 = .ok (.istore_n 1, 1) := by decide +kernel
theorem dX4_readNumber_36 : decode cX4_readNumber 36 = .ok (.aload_n 0, 1) := by decide +kernel
theorem dX4_readNumber_37 : decode cX4_readNumber 37 = .ok (.dup, 1) := by decide +kernel
theorem dX4_readNumber_38 : decode cX4_readNumber 38 = .ok (.getfield 34, 3) := by decide +kernel
theorem dX4_readNumber_41 : decode cX4_readNumber 41 = .ok (.iconst 1, 1) := by decide +kernel
theorem dX4_readNumber_42 : decode cX4_readNumber 42 = .ok (.iadd, 1) := by decide +kernel
theorem dX4_readNumber_43 : decode cX4_readNumber 43 = .ok (.putfield 34, 3) := by decide +kernel
theorem dX4_readNumber_46 : decode cX4_readNumber 46 = .ok (.iinc 2 1, 3) := by decide +kernel
theorem dX4_readNumber_49 : decode cX4_readNumber 49 = .ok (.goto (-45), 3) := by decide +kernel
theorem dX4_readNumber_52 : decode cX4_readNumber 52 = .ok (.iload_n 1, 1) := by decide +kernel
theorem dX4_readNumber_53 : decode cX4_readNumber 53 = .ok (.ireturn, 1) := by decide +kernel
set_option maxRecDepth 20000 in
theorem ggX4_passSign_X4_signHere : GoodIn wsX4_passSign wsX4_signHere := goodIn_r _ [6, 1, 7, 8, 9, 10, 11, 12, 13, 14, 15, 16, 17, 18] (by decide +kernel) (by decide +kernel)
set_option maxRecDepth 20000 in
theorem gX4_passSign_X4_signHere : GoodIn wsX4_passSign (wsV RX4 51 RX4 yX4_signHere wsX4_signHere) := goodIn_app (goodIn_of _ (by decide +kernel)) ggX4_passSign_X4_signHere
theorem dX4_passSign_0 : decode cX4_passSign 0 = .ok (.aload_n 0, 1) := by decide +kernel
theorem dX4_passSign_1 : decode cX4_passSign 1 = .ok (.invokevirtual 51, 3) := by decide +kernel
theorem dX4_passSign_4 : decode cX4_passSign 4 = .ok (.iload_n 1, 1) := by decide +kernel
theorem dX4_passSign_5 : decode cX4_passSign 5 = .ok (.if_icmp .eq 5, 3) := by decide +kernel
theorem dX4_passSign_8 : decode cX4_passSign 8 = .ok (.iconst 0, 1) := by decide +kernel
theorem dX4_passSign_9 : decode cX4_passSign 9 = .ok (.ireturn, 1) := by decide +kernel
theorem dX4_passSign_10 : decode cX4_passSign 10 = .ok (.aload_n 0, 1) := by decide +kernel
theorem dX4_passSign_11 : decode cX4_passSign 11 = .ok (.dup, 1) := by decide +kernel
theorem dX4_passSign_12 : decode cX4_passSign 12 = .ok (.getfield 34, 3) := by decide +kernel
theorem dX4_passSign_15 : decode cX4_passSign 15 = .ok (.iconst 1, 1) := by decide +kernel
theorem dX4_passSign_16 : decode cX4_passSign 16 = .ok (.iadd, 1) := by decide +kernel
theorem dX4_passSign_17 : decode cX4_passSign 17 = .ok (.putfield 34, 3) := by decide +kernel
theorem dX4_passSign_20 : decode cX4_passSign 20 = .ok (.iconst 1, 1) := by decide +kernel
theorem dX4_passSign_21 : decode cX4_passSign 21 = .ok (.ireturn, 1) := by decide +kernel
theorem dX4_signHere_0 : decode cX4_signHere 0 = .ok (.aload_n 0, 1) := by decide +kernel
theorem dX4_signHere_1 : decode cX4_signHere 1 = .ok (.getfield 34, 3) := by decide +kernel
theorem dX4_signHere_4 : decode cX4_signHere 4 = .ok (.ifCond .lt 23, 3) := by decide +kernel
theorem dX4_signHere_7 : decode cX4_signHere 7 = .ok (.aload_n 0, 1) := by decide +kernel
theorem dX4_signHere_8 : decode cX4_signHere 8 = .ok (.getfield 34, 3) := by decide +kernel
theorem dX4_signHere_11 : decode cX4_signHere 11 = .ok (.aload_n 0, 1) := by decide +kernel
theorem dX4_signHere_12 : decode cX4_signHere 12 = .ok (.getfield 15, 3) := by decide +kernel
theorem dX4_signHere_15 : decode cX4_signHere 15 = .ok (.if_icmp .ge 12, 3) := by decide +kernel
theorem dX4_signHere_18 : decode cX4_signHere 18 = .ok (.aload_n 0, 1) := by decide +kernel
theorem dX4_signHere_19 : decode cX4_signHere 19 = .ok (.getfield 34, 3) := by decide +kernel
theorem dX4_signHere_22 : decode cX4_signHere 22 = .ok (.bipush 60, 2) := by decide +kernel
theorem dX4_signHere_24 : decode cX4_signHere 24 = .ok (.if_icmp .lt 7, 3) := by decide +kernel
theorem dX4_signHere_27 : decode cX4_signHere 27 = .ok (.iconst 0, 1) := by decide +kernel
theorem dX4_signHere_28 : decode cX4_signHere 28 = .ok (.goto 12, 3) := by decide +kernel
theorem dX4_signHere_31 : decode cX4_signHere 31 = .ok (.aload_n 0, 1) := by decide +kernel
theorem dX4_signHere_32 : decode cX4_signHere 32 = .ok (.getfield 9, 3) := by decide +kernel
theorem dX4_signHere_35 : decode cX4_signHere 35 = .ok (.aload_n 0, 1) := by decide +kernel
theorem dX4_signHere_36 : decode cX4_signHere 36 = .ok (.getfield 34, 3) := by decide +kernel
theorem dX4_signHere_39 : decode cX4_signHere 39 = .ok (.caload, 1) := by decide +kernel
theorem dX4_signHere_40 : decode cX4_signHere 40 = .ok (.ireturn, 1) := by decide +kernel
theorem dX4_isDigit_0 : decode cX4_isDigit 0 = .ok (.iload_n 0, 1) := by decide +kernel
theorem dX4_isDigit_1 : decode cX4_isDigit 1 = .ok (.bipush 48, 2) := by decide +kernel
theorem dX4_isDigit_3 : decode cX4_isDigit 3 = .ok (.if_icmp .lt 13, 3) := by decide +kernel
theorem dX4_isDigit_6 : decode cX4_isDigit 6 = .ok (.iload_n 0, 1) := by decide +kernel
theorem dX4_isDigit_7 : decode cX4_isDigit 7 = .ok (.bipush 57, 2) := by decide +kernel
theorem dX4_isDigit_9 : decode cX4_isDigit 9 = .ok (.if_icmp .gt 7, 3) := by decide +kernel
theorem dX4_isDigit_12 : decode cX4_isDigit 12 = .ok (.iconst 1, 1) := by decide +kernel
theorem dX4_isDigit_13 : decode cX4_isDigit 13 = .ok (.goto 4, 3) := by decide +kernel
theorem dX4_isDigit_16 : decode cX4_isDigit 16 = .ok (.iconst 0, 1) := by decide +kernel
theorem dX4_isDigit_17 : decode cX4_isDigit 17 = .ok (.ireturn, 1) := by decide +kernel
set_option maxRecDepth 20000 in
theorem ggX4_doOrderOn_X1_fillIn : GoodIn wsX4_doOrderOn wsX1_fillIn := goodIn_r _ [8, 9, 10, 11, 12, 13, 14, 15, 16, 17, 18, 19, 20, 21, 22, 23, 24, 25, 26, 27, 28, 29, 30, 31, 32, 33, 34, 35, 36, 37, 38, 39, 40, 41, 42, 43, 44, 45, 46, 47, 48, 49, 50, 205, 206, 207, 208, 209, 210, 211, 212, 213, 214, 215, 216, 217, 218, 219, 220, 221, 222] (by decide +kernel) (by decide +kernel)
set_option maxRecDepth 20000 in
theorem gX4_doOrderOn_X1_fillIn : GoodIn wsX4_doOrderOn (wsV RX4 88 RX1 yX1_fillIn wsX1_fillIn) := goodIn_app (goodIn_of _ (by decide +kernel)) ggX4_doOrderOn_X1_fillIn
set_option maxRecDepth 20000 in
theorem ggX4_doOrderOn_X1_grindBy : GoodIn wsX4_doOrderOn wsX1_grindBy := goodIn_r _ [54, 9, 10, 55, 56, 57, 58, 59, 60, 61, 62, 11, 63, 13, 14, 15, 47, 48, 49, 19, 50, 21, 64, 65, 66, 7, 67, 68, 69, 70, 71, 72, 73, 74, 75, 76, 77, 78, 79, 80, 81, 82, 83, 84, 85, 86, 87, 88, 89, 90, 29, 91, 31, 41, 92, 93, 94, 32, 42, 95, 44, 45, 46, 96, 97, 98, 99, 100, 101, 102, 103, 104, 105, 106, 107, 108, 109, 110, 111, 112, 113, 114, 115, 116, 117, 118, 119, 120, 121, 205, 206, 207, 208, 209, 210, 211, 212, 213, 214, 215, 216, 217, 219, 220, 221, 222, 218, 223, 224, 225, 226] (by decide +kernel) (by decide +kernel)
set_option maxRecDepth 20000 in
theorem gX4_doOrderOn_X1_grindBy : GoodIn wsX4_doOrderOn (wsV RX4 93 RX1 yX1_grindBy wsX1_grindBy) := goodIn_app (goodIn_of _ (by decide +kernel)) ggX4_doOrderOn_X1_grindBy
set_option maxRecDepth 20000 in
theorem ggX4_doOrderOn_X1_turnDial : GoodIn wsX4_doOrderOn wsX1_turnDial := goodIn_r _ [125, 9, 13, 14, 15, 64, 65, 66, 7, 67, 68, 69, 223, 224, 225, 226, 205, 206, 207, 208, 209, 210, 211, 212, 213, 214, 215, 216, 217] (by decide +kernel) (by decide +kernel)
set_option maxRecDepth 20000 in
theorem gX4_doOrderOn_X1_turnDial : GoodIn wsX4_doOrderOn (wsV RX4 96 RX1 yX1_turnDial wsX1_turnDial) := goodIn_app (goodIn_of _ (by decide +kernel)) ggX4_doOrderOn_X1_turnDial
set_option maxRecDepth 20000 in
theorem ggX4_doOrderOn_X1_letPass : GoodIn wsX4_doOrderOn wsX1_letPass := goodIn_r _ [129, 9, 68, 69, 111, 112, 113, 7, 114, 115, 116, 117, 118, 73, 119, 80, 120, 14, 121, 205, 206, 207, 208, 209, 210, 211, 212, 213, 214, 215, 216, 217, 223, 224, 225, 226] (by decide +kernel) (by decide +kernel)
set_option maxRecDepth 20000 in
theorem gX4_doOrderOn_X1_letPass : GoodIn wsX4_doOrderOn (wsV RX4 99 RX1 yX1_letPass wsX1_letPass) := goodIn_app (goodIn_of _ (by decide +kernel)) ggX4_doOrderOn_X1_letPass
set_option maxRecDepth 20000 in
theorem ggX4_doOrderOn_X1_makeShot : GoodIn wsX4_doOrderOn wsX1_makeShot := goodIn_r _ [133, 62, 134, 115, 135, 136, 137, 138, 7, 139, 55, 140, 141, 142, 29, 143, 31, 41, 144, 27, 28, 30, 32, 145, 146, 147, 148, 149, 14, 150, 151, 152, 153, 154, 57, 155, 156, 157, 158, 159, 160, 161, 162, 42, 163, 164, 165, 166, 167, 168, 169, 101, 102, 103, 170, 171, 172, 93, 60, 94, 173, 174, 175, 176, 64, 65, 66, 67, 68, 69, 177, 178, 179, 180, 181, 182, 183, 184, 185, 186, 187, 73, 188, 75, 81, 59, 61, 108, 189, 111, 112, 113, 114, 116, 117, 118, 119, 80, 120, 121, 205, 206, 207, 208, 209, 210, 211, 212, 213, 214, 215, 216, 217, 219, 220, 221, 222, 227, 228, 229, 223, 224, 225, 226] (by decide +kernel) (by decide +kernel)
set_option maxRecDepth 20000 in
theorem gX4_doOrderOn_X1_makeShot : GoodIn wsX4_doOrderOn (wsV RX4 103 RX1 yX1_makeShot wsX1_makeShot) := goodIn_app (goodIn_of _ (by decide +kernel)) ggX4_doOrderOn_X1_makeShot
set_option maxRecDepth 20000 in
theorem ggX4_doOrderOn_X1_emptyChute : GoodIn wsX4_doOrderOn wsX1_emptyChute := goodIn_r _ [193, 56, 194, 173, 174, 175, 29, 176, 31, 42, 205, 206, 207, 208, 209, 210, 211, 212, 213, 214, 215, 216, 217, 219, 220, 221, 222] (by decide +kernel) (by decide +kernel)
set_option maxRecDepth 20000 in
theorem gX4_doOrderOn_X1_emptyChute : GoodIn wsX4_doOrderOn (wsV RX4 106 RX1 yX1_emptyChute wsX1_emptyChute) := goodIn_app (goodIn_of _ (by decide +kernel)) ggX4_doOrderOn_X1_emptyChute
theorem dX4_doOrderOn_0 : decode cX4_doOrderOn 0 = .ok (.aload_n 0, 1) := by decide +kernel
theorem dX4_doOrderOn_1 : decode cX4_doOrderOn 1 = .ok (.getfield 55, 3) := by decide +kernel
theorem dX4_doOrderOn_4 : decode cX4_doOrderOn 4 = .ok (.lookupswitch 105 #[(98, 78), (102, 52), (103, 65), (115, 100), (119, 91)], 52) := by decide +kernel
theorem dX4_doOrderOn_56 : decode cX4_doOrderOn 56 = .ok (.aload_n 1, 1) := by decide +kernel
theorem dX4_doOrderOn_57 : decode cX4_doOrderOn 57 = .ok (.aload_n 0, 1) := by decide +kernel
theorem dX4_doOrderOn_58 : decode cX4_doOrderOn 58 = .ok (.getfield 73, 3) := by decide +kernel
theorem dX4_doOrderOn_61 : decode cX4_doOrderOn 61 = .ok (.aload_n 0, 1) := by decide +kernel
theorem dX4_doOrderOn_62 : decode cX4_doOrderOn 62 = .ok (.getfield 76, 3) := by decide +kernel
theorem dX4_doOrderOn_65 : decode cX4_doOrderOn 65 = .ok (.invokevirtual 88, 3) := by decide +kernel
theorem dX4_doOrderOn_68 : decode cX4_doOrderOn 68 = .ok (.ireturn, 1) := by decide +kernel
theorem dX4_doOrderOn_69 : decode cX4_doOrderOn 69 = .ok (.aload_n 1, 1) := by decide +kernel
theorem dX4_doOrderOn_70 : decode cX4_doOrderOn 70 = .ok (.aload_n 0, 1) := by decide +kernel
theorem dX4_doOrderOn_71 : decode cX4_doOrderOn 71 = .ok (.getfield 73, 3) := by decide +kernel
theorem dX4_doOrderOn_74 : decode cX4_doOrderOn 74 = .ok (.aload_n 0, 1) := by decide +kernel
theorem dX4_doOrderOn_75 : decode cX4_doOrderOn 75 = .ok (.getfield 76, 3) := by decide +kernel
theorem dX4_doOrderOn_78 : decode cX4_doOrderOn 78 = .ok (.invokevirtual 93, 3) := by decide +kernel
theorem dX4_doOrderOn_81 : decode cX4_doOrderOn 81 = .ok (.ireturn, 1) := by decide +kernel
theorem dX4_doOrderOn_82 : decode cX4_doOrderOn 82 = .ok (.aload_n 1, 1) := by decide +kernel
theorem dX4_doOrderOn_83 : decode cX4_doOrderOn 83 = .ok (.aload_n 0, 1) := by decide +kernel
theorem dX4_doOrderOn_84 : decode cX4_doOrderOn 84 = .ok (.getfield 73, 3) := by decide +kernel
theorem dX4_doOrderOn_87 : decode cX4_doOrderOn 87 = .ok (.aload_n 0, 1) := by decide +kernel
theorem dX4_doOrderOn_88 : decode cX4_doOrderOn 88 = .ok (.getfield 76, 3) := by decide +kernel
theorem dX4_doOrderOn_91 : decode cX4_doOrderOn 91 = .ok (.invokevirtual 96, 3) := by decide +kernel
theorem dX4_doOrderOn_94 : decode cX4_doOrderOn 94 = .ok (.ireturn, 1) := by decide +kernel
theorem dX4_doOrderOn_95 : decode cX4_doOrderOn 95 = .ok (.aload_n 1, 1) := by decide +kernel
theorem dX4_doOrderOn_96 : decode cX4_doOrderOn 96 = .ok (.aload_n 0, 1) := by decide +kernel
theorem dX4_doOrderOn_97 : decode cX4_doOrderOn 97 = .ok (.getfield 73, 3) := by decide +kernel
theorem dX4_doOrderOn_100 : decode cX4_doOrderOn 100 = .ok (.invokevirtual 99, 3) := by decide +kernel
theorem dX4_doOrderOn_103 : decode cX4_doOrderOn 103 = .ok (.ireturn, 1) := by decide +kernel
theorem dX4_doOrderOn_104 : decode cX4_doOrderOn 104 = .ok (.aload_n 1, 1) := by decide +kernel
theorem dX4_doOrderOn_105 : decode cX4_doOrderOn 105 = .ok (.invokevirtual 103, 3) := by decide +kernel
theorem dX4_doOrderOn_108 : decode cX4_doOrderOn 108 = .ok (.ireturn, 1) := by decide +kernel
theorem dX4_doOrderOn_109 : decode cX4_doOrderOn 109 = .ok (.aload_n 1, 1) := by decide +kernel
theorem dX4_doOrderOn_110 : decode cX4_doOrderOn 110 = .ok (.invokevirtual 106, 3) := by decide +kernel
theorem dX4_doOrderOn_113 : decode cX4_doOrderOn 113 = .ok (.ireturn, 1) := by decide +kernel
theorem dX5_init_0 : decode cX5_init 0 = .ok (.aload_n 0, 1) := by decide +kernel
theorem dX5_init_1 : decode cX5_init 1 = .ok (.invokespecial 1, 3) := by decide +kernel
theorem dX5_init_4 : decode cX5_init 4 = .ok (.aload_n 0, 1) := by decide +kernel
theorem dX5_init_5 : decode cX5_init 5 = .ok (.iload_n 1, 1) := by decide +kernel
theorem dX5_init_6 : decode cX5_init 6 = .ok (.newarray .int, 2) := by decide +kernel
theorem dX5_init_8 : decode cX5_init 8 = .ok (.putfield 7, 3) := by decide +kernel
theorem dX5_init_11 : decode cX5_init 11 = .ok (.aload_n 0, 1) := by decide +kernel
theorem dX5_init_12 : decode cX5_init 12 = .ok (.iload_n 1, 1) := by decide +kernel
theorem dX5_init_13 : decode cX5_init 13 = .ok (.newarray .int, 2) := by decide +kernel
theorem dX5_init_15 : decode cX5_init 15 = .ok (.putfield 13, 3) := by decide +kernel
theorem dX5_init_18 : decode cX5_init 18 = .ok (.return_, 1) := by decide +kernel
theorem dX5_copyFrom_0 : decode cX5_copyFrom 0 = .ok (.aload_n 0, 1) := by decide +kernel
theorem dX5_copyFrom_1 : decode cX5_copyFrom 1 = .ok (.aload_n 1, 1) := by decide +kernel
theorem dX5_copyFrom_2 : decode cX5_copyFrom 2 = .ok (.getfield 16, 3) := by decide +kernel
theorem dX5_copyFrom_5 : decode cX5_copyFrom 5 = .ok (.aload_n 0, 1) := by decide +kernel
theorem dX5_copyFrom_6 : decode cX5_copyFrom 6 = .ok (.getfield 7, 3) := by decide +kernel
theorem dX5_copyFrom_9 : decode cX5_copyFrom 9 = .ok (.arraylength, 1) := by decide +kernel
theorem dX5_copyFrom_10 : decode cX5_copyFrom 10 = .ok (.invokestatic 20, 3) := by decide +kernel
theorem dX5_copyFrom_13 : decode cX5_copyFrom 13 = .ok (.putfield 16, 3) := by decide +kernel
theorem dX5_copyFrom_16 : decode cX5_copyFrom 16 = .ok (.aload_n 0, 1) := by decide +kernel
theorem dX5_copyFrom_17 : decode cX5_copyFrom 17 = .ok (.aload_n 1, 1) := by decide +kernel
theorem dX5_copyFrom_18 : decode cX5_copyFrom 18 = .ok (.getfield 26, 3) := by decide +kernel
theorem dX5_copyFrom_21 : decode cX5_copyFrom 21 = .ok (.putfield 26, 3) := by decide +kernel
theorem dX5_copyFrom_24 : decode cX5_copyFrom 24 = .ok (.aload_n 1, 1) := by decide +kernel
theorem dX5_copyFrom_25 : decode cX5_copyFrom 25 = .ok (.getfield 7, 3) := by decide +kernel
theorem dX5_copyFrom_28 : decode cX5_copyFrom 28 = .ok (.iconst 0, 1) := by decide +kernel
theorem dX5_copyFrom_29 : decode cX5_copyFrom 29 = .ok (.aload_n 0, 1) := by decide +kernel
theorem dX5_copyFrom_30 : decode cX5_copyFrom 30 = .ok (.getfield 7, 3) := by decide +kernel
theorem dX5_copyFrom_33 : decode cX5_copyFrom 33 = .ok (.iconst 0, 1) := by decide +kernel
theorem dX5_copyFrom_34 : decode cX5_copyFrom 34 = .ok (.aload_n 0, 1) := by decide +kernel
theorem dX5_copyFrom_35 : decode cX5_copyFrom 35 = .ok (.getfield 16, 3) := by decide +kernel
theorem dX5_copyFrom_38 : decode cX5_copyFrom 38 = .ok (.invokestatic 29, 3) := by decide +kernel
theorem dX5_copyFrom_41 : decode cX5_copyFrom 41 = .ok (.aload_n 1, 1) := by decide +kernel
theorem dX5_copyFrom_42 : decode cX5_copyFrom 42 = .ok (.getfield 13, 3) := by decide +kernel
theorem dX5_copyFrom_45 : decode cX5_copyFrom 45 = .ok (.iconst 0, 1) := by decide +kernel
theorem dX5_copyFrom_46 : decode cX5_copyFrom 46 = .ok (.aload_n 0, 1) := by decide +kernel
theorem dX5_copyFrom_47 : decode cX5_copyFrom 47 = .ok (.getfield 13, 3) := by decide +kernel
theorem dX5_copyFrom_50 : decode cX5_copyFrom 50 = .ok (.iconst 0, 1) := by decide +kernel
theorem dX5_copyFrom_51 : decode cX5_copyFrom 51 = .ok (.aload_n 0, 1) := by decide +kernel
theorem dX5_copyFrom_52 : decode cX5_copyFrom 52 = .ok (.getfield 16, 3) := by decide +kernel
theorem dX5_copyFrom_55 : decode cX5_copyFrom 55 = .ok (.invokestatic 29, 3) := by decide +kernel
theorem dX5_copyFrom_58 : decode cX5_copyFrom 58 = .ok (.return_, 1) := by decide +kernel
theorem dX5_clear_0 : decode cX5_clear 0 = .ok (.aload_n 0, 1) := by decide +kernel
theorem dX5_clear_1 : decode cX5_clear 1 = .ok (.iconst 0, 1) := by decide +kernel
theorem dX5_clear_2 : decode cX5_clear 2 = .ok (.putfield 16, 3) := by decide +kernel
theorem dX5_clear_5 : decode cX5_clear 5 = .ok (.aload_n 0, 1) := by decide +kernel
theorem dX5_clear_6 : decode cX5_clear 6 = .ok (.iconst 0, 1) := by decide +kernel
theorem dX5_clear_7 : decode cX5_clear 7 = .ok (.putfield 26, 3) := by decide +kernel
theorem dX5_clear_10 : decode cX5_clear 10 = .ok (.return_, 1) := by decide +kernel
theorem dX5_append_0 : decode cX5_append 0 = .ok (.aload_n 0, 1) := by decide +kernel
theorem dX5_append_1 : decode cX5_append 1 = .ok (.getfield 16, 3) := by decide +kernel
theorem dX5_append_4 : decode cX5_append 4 = .ok (.aload_n 0, 1) := by decide +kernel
theorem dX5_append_5 : decode cX5_append 5 = .ok (.getfield 7, 3) := by decide +kernel
theorem dX5_append_8 : decode cX5_append 8 = .ok (.arraylength, 1) := by decide +kernel
theorem dX5_append_9 : decode cX5_append 9 = .ok (.if_icmp .ge 43, 3) := by decide +kernel
theorem dX5_append_12 : decode cX5_append 12 = .ok (.aload_n 0, 1) := by decide +kernel
theorem dX5_append_13 : decode cX5_append 13 = .ok (.getfield 7, 3) := by decide +kernel
theorem dX5_append_16 : decode cX5_append 16 = .ok (.aload_n 0, 1) := by decide +kernel
theorem dX5_append_17 : decode cX5_append 17 = .ok (.getfield 16, 3) := by decide +kernel
theorem dX5_append_20 : decode cX5_append 20 = .ok (.iload_n 1, 1) := by decide +kernel
theorem dX5_append_21 : decode cX5_append 21 = .ok (.iastore, 1) := by decide +kernel
theorem dX5_append_22 : decode cX5_append 22 = .ok (.aload_n 0, 1) := by decide +kernel
theorem dX5_append_23 : decode cX5_append 23 = .ok (.getfield 13, 3) := by decide +kernel
theorem dX5_append_26 : decode cX5_append 26 = .ok (.aload_n 0, 1) := by decide +kernel
theorem dX5_append_27 : decode cX5_append 27 = .ok (.getfield 16, 3) := by decide +kernel
theorem dX5_append_30 : decode cX5_append 30 = .ok (.iload_n 2, 1) := by decide +kernel
theorem dX5_append_31 : decode cX5_append 31 = .ok (.iastore, 1) := by decide +kernel
theorem dX5_append_32 : decode cX5_append 32 = .ok (.aload_n 0, 1) := by decide +kernel
theorem dX5_append_33 : decode cX5_append 33 = .ok (.dup, 1) := by decide +kernel
theorem dX5_append_34 : decode cX5_append 34 = .ok (.getfield 16, 3) := by decide +kernel
theorem dX5_append_37 : decode cX5_append 37 = .ok (.iconst 1, 1) := by decide +kernel
theorem dX5_append_38 : decode cX5_append 38 = .ok (.iadd, 1) := by decide +kernel
theorem dX5_append_39 : decode cX5_append 39 = .ok (.putfield 16, 3) := by decide +kernel
theorem dX5_append_42 : decode cX5_append 42 = .ok (.aload_n 0, 1) := by decide +kernel
theorem dX5_append_43 : decode cX5_append 43 = .ok (.dup, 1) := by decide +kernel
theorem dX5_append_44 : decode cX5_append 44 = .ok (.getfield 26, 3) := by decide +kernel
theorem dX5_append_47 : decode cX5_append 47 = .ok (.iload_n 1, 1) := by decide +kernel
theorem dX5_append_48 : decode cX5_append 48 = .ok (.iadd, 1) := by decide +kernel
theorem dX5_append_49 : decode cX5_append 49 = .ok (.putfield 26, 3) := by decide +kernel
theorem dX5_append_52 : decode cX5_append 52 = .ok (.return_, 1) := by decide +kernel
theorem dX5_addToLast_0 : decode cX5_addToLast 0 = .ok (.aload_n 0, 1) := by decide +kernel
theorem dX5_addToLast_1 : decode cX5_addToLast 1 = .ok (.getfield 16, 3) := by decide +kernel
theorem dX5_addToLast_4 : decode cX5_addToLast 4 = .ok (.ifCond .le 28, 3) := by decide +kernel
theorem dX5_addToLast_7 : decode cX5_addToLast 7 = .ok (.aload_n 0, 1) := by decide +kernel
theorem dX5_addToLast_8 : decode cX5_addToLast 8 = .ok (.getfield 7, 3) := by decide +kernel
theorem dX5_addToLast_11 : decode cX5_addToLast 11 = .ok (.aload_n 0, 1) := by decide +kernel
theorem dX5_addToLast_12 : decode cX5_addToLast 12 = .ok (.getfield 16, 3) := by decide +kernel
theorem dX5_addToLast_15 : decode cX5_addToLast 15 = .ok (.iconst 1, 1) := by decide +kernel
theorem dX5_addToLast_16 : decode cX5_addToLast 16 = .ok (.isub, 1) := by decide +kernel
theorem dX5_addToLast_17 : decode cX5_addToLast 17 = .ok (.dup2, 1) := by decide +kernel
theorem dX5_addToLast_18 : decode cX5_addToLast 18 = .ok (.iaload, 1) := by decide +kernel
theorem dX5_addToLast_19 : decode cX5_addToLast 19 = .ok (.iload_n 1, 1) := by decide +kernel
theorem dX5_addToLast_20 : decode cX5_addToLast 20 = .ok (.iadd, 1) := by decide +kernel
theorem dX5_addToLast_21 : decode cX5_addToLast 21 = .ok (.iastore, 1) := by decide +kernel
theorem dX5_addToLast_22 : decode cX5_addToLast 22 = .ok (.aload_n 0, 1) := by decide +kernel
theorem dX5_addToLast_23 : decode cX5_addToLast 23 = .ok (.dup, 1) := by decide +kernel
theorem dX5_addToLast_24 : decode cX5_addToLast 24 = .ok (.getfield 26, 3) := by decide +kernel
theorem dX5_addToLast_27 : decode cX5_addToLast 27 = .ok (.iload_n 1, 1) := by decide +kernel
theorem dX5_addToLast_28 : decode cX5_addToLast 28 = .ok (.iadd, 1) := by decide +kernel
theorem dX5_addToLast_29 : decode cX5_addToLast 29 = .ok (.putfield 26, 3) := by decide +kernel
theorem dX5_addToLast_32 : decode cX5_addToLast 32 = .ok (.return_, 1) := by decide +kernel
set_option maxRecDepth 20000 in
theorem ggX5_letOut_X5_append : GoodIn wsX5_letOut wsX5_append := goodIn_r _ [13, 1, 2, 7, 8, 22, 23, 24, 25] (by decide +kernel) (by decide +kernel)
set_option maxRecDepth 20000 in
theorem gX5_letOut_X5_append : GoodIn wsX5_letOut (wsV RX5 35 RX5 yX5_append wsX5_append) := goodIn_app (goodIn_of _ (by decide +kernel)) ggX5_letOut_X5_append
set_option maxRecDepth 20000 in
theorem ggX5_letOut_X5_dropFirst : GoodIn wsX5_letOut wsX5_dropFirst := goodIn_r _ [17, 1, 2, 18, 19, 20, 21, 7, 22, 23, 24, 25] (by decide +kernel) (by decide +kernel)
set_option maxRecDepth 20000 in
theorem gX5_letOut_X5_dropFirst : GoodIn wsX5_letOut (wsV RX5 39 RX5 yX5_dropFirst wsX5_dropFirst) := goodIn_app (goodIn_of _ (by decide +kernel)) ggX5_letOut_X5_dropFirst
theorem dX5_letOut_0 : decode cX5_letOut 0 = .ok (.iload_n 1, 1) := by decide +kernel
theorem dX5_letOut_1 : decode cX5_letOut 1 = .ok (.istore 4, 2) := by decide +kernel
theorem dX5_letOut_3 : decode cX5_letOut 3 = .ok (.iconst 0, 1) := by decide +kernel
theorem dX5_letOut_4 : decode cX5_letOut 4 = .ok (.istore 5, 2) := by decide +kernel
theorem dX5_letOut_6 : decode cX5_letOut 6 = .ok (.iconst 0, 1) := by decide +kernel
theorem dX5_letOut_7 : decode cX5_letOut 7 = .ok (.istore 6, 2) := by decide +kernel
theorem dX5_letOut_9 : decode cX5_letOut 9 = .ok (.iload 6, 2) := by decide +kernel
theorem dX5_letOut_11 : decode cX5_letOut 11 = .ok (.aload_n 0, 1) := by decide +kernel
theorem dX5_letOut_12 : decode cX5_letOut 12 = .ok (.getfield 16, 3) := by decide +kernel
theorem dX5_letOut_15 : decode cX5_letOut 15 = .ok (.if_icmp .ge 75, 3) := by decide +kernel
theorem dX5_letOut_18 : decode cX5_letOut 18 = .ok (.iload 4, 2) := by decide +kernel
theorem dX5_letOut_20 : decode cX5_letOut 20 = .ok (.ifCond .le 70, 3) := by decide +kernel
theorem dX5_letOut_23 : decode cX5_letOut 23 = .ok (.iload 4, 2) := by decide +kernel
theorem dX5_letOut_25 : decode cX5_letOut 25 = .ok (.aload_n 0, 1) := by decide +kernel
theorem dX5_letOut_26 : decode cX5_letOut 26 = .ok (.getfield 7, 3) := by decide +kernel
theorem dX5_letOut_29 : decode cX5_letOut 29 = .ok (.iload 6, 2) := by decide +kernel
theorem dX5_letOut_31 : decode cX5_letOut 31 = .ok (.iaload, 1) := by decide +kernel
theorem dX5_letOut_32 : decode cX5_letOut 32 = .ok (.invokestatic 20, 3) := by decide +kernel
theorem dX5_letOut_35 : decode cX5_letOut 35 = .ok (.istore 7, 2) := by decide +kernel
theorem dX5_letOut_37 : decode cX5_letOut 37 = .ok (.aload_n 3, 1) := by decide +kernel
theorem dX5_letOut_38 : decode cX5_letOut 38 = .ok (.iload 7, 2) := by decide +kernel
theorem dX5_letOut_40 : decode cX5_letOut 40 = .ok (.aload_n 0, 1) := by decide +kernel
theorem dX5_letOut_41 : decode cX5_letOut 41 = .ok (.getfield 13, 3) := by decide +kernel
theorem dX5_letOut_44 : decode cX5_letOut 44 = .ok (.iload 6, 2) := by decide +kernel
theorem dX5_letOut_46 : decode cX5_letOut 46 = .ok (.iaload, 1) := by decide +kernel
theorem dX5_letOut_47 : decode cX5_letOut 47 = .ok (.iload_n 2, 1) := by decide +kernel
theorem dX5_letOut_48 : decode cX5_letOut 48 = .ok (.ior, 1) := by decide +kernel
theorem dX5_letOut_49 : decode cX5_letOut 49 = .ok (.invokevirtual 35, 3) := by decide +kernel
theorem dX5_letOut_52 : decode cX5_letOut 52 = .ok (.aload_n 0, 1) := by decide +kernel
theorem dX5_letOut_53 : decode cX5_letOut 53 = .ok (.getfield 7, 3) := by decide +kernel
theorem dX5_letOut_56 : decode cX5_letOut 56 = .ok (.iload 6, 2) := by decide +kernel
theorem dX5_letOut_58 : decode cX5_letOut 58 = .ok (.dup2, 1) := by decide +kernel
theorem dX5_letOut_59 : decode cX5_letOut 59 = .ok (.iaload, 1) := by decide +kernel
theorem dX5_letOut_60 : decode cX5_letOut 60 = .ok (.iload 7, 2) := by decide +kernel
theorem dX5_letOut_62 : decode cX5_letOut 62 = .ok (.isub, 1) := by decide +kernel
theorem dX5_letOut_63 : decode cX5_letOut 63 = .ok (.iastore, 1) := by decide +kernel
theorem dX5_letOut_64 : decode cX5_letOut 64 = .ok (.iload 4, 2) := by decide +kernel
theorem dX5_letOut_66 : decode cX5_letOut 66 = .ok (.iload 7, 2) := by decide +kernel
theorem dX5_letOut_68 : decode cX5_letOut 68 = .ok (.isub, 1) := by decide +kernel
theorem dX5_letOut_69 : decode cX5_letOut 69 = .ok (.istore 4, 2) := by decide +kernel
theorem dX5_letOut_71 : decode cX5_letOut 71 = .ok (.aload_n 0, 1) := by decide +kernel
theorem dX5_letOut_72 : decode cX5_letOut 72 = .ok (.getfield 7, 3) := by decide +kernel
theorem dX5_letOut_75 : decode cX5_letOut 75 = .ok (.iload 6, 2) := by decide +kernel
theorem dX5_letOut_77 : decode cX5_letOut 77 = .ok (.iaload, 1) := by decide +kernel
theorem dX5_letOut_78 : decode cX5_letOut 78 = .ok (.ifCond .ne 6, 3) := by decide +kernel
theorem dX5_letOut_81 : decode cX5_letOut 81 = .ok (.iinc 5 1, 3) := by decide +kernel
theorem dX5_letOut_84 : decode cX5_letOut 84 = .ok (.iinc 6 1, 3) := by decide +kernel
theorem dX5_letOut_87 : decode cX5_letOut 87 = .ok (.goto (-78), 3) := by decide +kernel
theorem dX5_letOut_90 : decode cX5_letOut 90 = .ok (.aload_n 0, 1) := by decide +kernel
theorem dX5_letOut_91 : decode cX5_letOut 91 = .ok (.dup, 1) := by decide +kernel
theorem dX5_letOut_92 : decode cX5_letOut 92 = .ok (.getfield 26, 3) := by decide +kernel
theorem dX5_letOut_95 : decode cX5_letOut 95 = .ok (.iload_n 1, 1) := by decide +kernel
theorem dX5_letOut_96 : decode cX5_letOut 96 = .ok (.iload 4, 2) := by decide +kernel
theorem dX5_letOut_98 : decode cX5_letOut 98 = .ok (.isub, 1) := by decide +kernel
theorem dX5_letOut_99 : decode cX5_letOut 99 = .ok (.isub, 1) := by decide +kernel
theorem dX5_letOut_100 : decode cX5_letOut 100 = .ok (.putfield 26, 3) := by decide +kernel
theorem dX5_letOut_103 : decode cX5_letOut 103 = .ok (.aload_n 0, 1) := by decide +kernel
theorem dX5_letOut_104 : decode cX5_letOut 104 = .ok (.iload 5, 2) := by decide +kernel
theorem dX5_letOut_106 : decode cX5_letOut 106 = .ok (.invokevirtual 39, 3) := by decide +kernel
theorem dX5_letOut_109 : decode cX5_letOut 109 = .ok (.return_, 1) := by decide +kernel
theorem dX5_dropFirst_0 : decode cX5_dropFirst 0 = .ok (.aload_n 0, 1) := by decide +kernel
theorem dX5_dropFirst_1 : decode cX5_dropFirst 1 = .ok (.dup, 1) := by decide +kernel
theorem dX5_dropFirst_2 : decode cX5_dropFirst 2 = .ok (.getfield 16, 3) := by decide +kernel
theorem dX5_dropFirst_5 : decode cX5_dropFirst 5 = .ok (.iload_n 1, 1) := by decide +kernel
theorem dX5_dropFirst_6 : decode cX5_dropFirst 6 = .ok (.isub, 1) := by decide +kernel
theorem dX5_dropFirst_7 : decode cX5_dropFirst 7 = .ok (.putfield 16, 3) := by decide +kernel
theorem dX5_dropFirst_10 : decode cX5_dropFirst 10 = .ok (.aload_n 0, 1) := by decide +kernel
theorem dX5_dropFirst_11 : decode cX5_dropFirst 11 = .ok (.getfield 7, 3) := by decide +kernel
theorem dX5_dropFirst_14 : decode cX5_dropFirst 14 = .ok (.iload_n 1, 1) := by decide +kernel
theorem dX5_dropFirst_15 : decode cX5_dropFirst 15 = .ok (.aload_n 0, 1) := by decide +kernel
theorem dX5_dropFirst_16 : decode cX5_dropFirst 16 = .ok (.getfield 7, 3) := by decide +kernel
theorem dX5_dropFirst_19 : decode cX5_dropFirst 19 = .ok (.iconst 0, 1) := by decide +kernel
theorem dX5_dropFirst_20 : decode cX5_dropFirst 20 = .ok (.aload_n 0, 1) := by decide +kernel
theorem dX5_dropFirst_21 : decode cX5_dropFirst 21 = .ok (.getfield 16, 3) := by decide +kernel
theorem dX5_dropFirst_24 : decode cX5_dropFirst 24 = .ok (.invokestatic 29, 3) := by decide +kernel
theorem dX5_dropFirst_27 : decode cX5_dropFirst 27 = .ok (.aload_n 0, 1) := by decide +kernel
theorem dX5_dropFirst_28 : decode cX5_dropFirst 28 = .ok (.getfield 13, 3) := by decide +kernel
theorem dX5_dropFirst_31 : decode cX5_dropFirst 31 = .ok (.iload_n 1, 1) := by decide +kernel
theorem dX5_dropFirst_32 : decode cX5_dropFirst 32 = .ok (.aload_n 0, 1) := by decide +kernel
theorem dX5_dropFirst_33 : decode cX5_dropFirst 33 = .ok (.getfield 13, 3) := by decide +kernel
theorem dX5_dropFirst_36 : decode cX5_dropFirst 36 = .ok (.iconst 0, 1) := by decide +kernel
theorem dX5_dropFirst_37 : decode cX5_dropFirst 37 = .ok (.aload_n 0, 1) := by decide +kernel
theorem dX5_dropFirst_38 : decode cX5_dropFirst 38 = .ok (.getfield 16, 3) := by decide +kernel
theorem dX5_dropFirst_41 : decode cX5_dropFirst 41 = .ok (.invokestatic 29, 3) := by decide +kernel
theorem dX5_dropFirst_44 : decode cX5_dropFirst 44 = .ok (.return_, 1) := by decide +kernel
theorem dX5_amountAt_0 : decode cX5_amountAt 0 = .ok (.iload_n 1, 1) := by decide +kernel
theorem dX5_amountAt_1 : decode cX5_amountAt 1 = .ok (.ifCond .lt 11, 3) := by decide +kernel
theorem dX5_amountAt_4 : decode cX5_amountAt 4 = .ok (.iload_n 1, 1) := by decide +kernel
theorem dX5_amountAt_5 : decode cX5_amountAt 5 = .ok (.aload_n 0, 1) := by decide +kernel
theorem dX5_amountAt_6 : decode cX5_amountAt 6 = .ok (.getfield 16, 3) := by decide +kernel
theorem dX5_amountAt_9 : decode cX5_amountAt 9 = .ok (.if_icmp .lt 7, 3) := by decide +kernel
theorem dX5_amountAt_12 : decode cX5_amountAt 12 = .ok (.iconst 0, 1) := by decide +kernel
theorem dX5_amountAt_13 : decode cX5_amountAt 13 = .ok (.goto 9, 3) := by decide +kernel
theorem dX5_amountAt_16 : decode cX5_amountAt 16 = .ok (.aload_n 0, 1) := by decide +kernel
theorem dX5_amountAt_17 : decode cX5_amountAt 17 = .ok (.getfield 7, 3) := by decide +kernel
theorem dX5_amountAt_20 : decode cX5_amountAt 20 = .ok (.iload_n 1, 1) := by decide +kernel
theorem dX5_amountAt_21 : decode cX5_amountAt 21 = .ok (.iaload, 1) := by decide +kernel
theorem dX5_amountAt_22 : decode cX5_amountAt 22 = .ok (.ireturn, 1) := by decide +kernel
theorem dX5_markAt_0 : decode cX5_markAt 0 = .ok (.iload_n 1, 1) := by decide +kernel
theorem dX5_markAt_1 : decode cX5_markAt 1 = .ok (.ifCond .lt 11, 3) := by decide +kernel
theorem dX5_markAt_4 : decode cX5_markAt 4 = .ok (.iload_n 1, 1) := by decide +kernel
theorem dX5_markAt_5 : decode cX5_markAt 5 = .ok (.aload_n 0, 1) := by decide +kernel
theorem dX5_markAt_6 : decode cX5_markAt 6 = .ok (.getfield 16, 3) := by decide +kernel
theorem dX5_markAt_9 : decode cX5_markAt 9 = .ok (.if_icmp .lt 7, 3) := by decide +kernel
theorem dX5_markAt_12 : decode cX5_markAt 12 = .ok (.iconst 0, 1) := by decide +kernel
theorem dX5_markAt_13 : decode cX5_markAt 13 = .ok (.goto 9, 3) := by decide +kernel
theorem dX5_markAt_16 : decode cX5_markAt 16 = .ok (.aload_n 0, 1) := by decide +kernel
theorem dX5_markAt_17 : decode cX5_markAt 17 = .ok (.getfield 13, 3) := by decide +kernel
theorem dX5_markAt_20 : decode cX5_markAt 20 = .ok (.iload_n 1, 1) := by decide +kernel
theorem dX5_markAt_21 : decode cX5_markAt 21 = .ok (.iaload, 1) := by decide +kernel
theorem dX5_markAt_22 : decode cX5_markAt 22 = .ok (.ireturn, 1) := by decide +kernel
theorem dX5_isMostly_0 : decode cX5_isMostly 0 = .ok (.iconst 0, 1) := by decide +kernel
theorem dX5_isMostly_1 : decode cX5_isMostly 1 = .ok (.istore_n 2, 1) := by decide +kernel
theorem dX5_isMostly_2 : decode cX5_isMostly 2 = .ok (.iconst 0, 1) := by decide +kernel
theorem dX5_isMostly_3 : decode cX5_isMostly 3 = .ok (.istore_n 3, 1) := by decide +kernel
theorem dX5_isMostly_4 : decode cX5_isMostly 4 = .ok (.iload_n 3, 1) := by decide +kernel
theorem dX5_isMostly_5 : decode cX5_isMostly 5 = .ok (.aload_n 0, 1) := by decide +kernel
theorem dX5_isMostly_6 : decode cX5_isMostly 6 = .ok (.getfield 16, 3) := by decide +kernel
theorem dX5_isMostly_9 : decode cX5_isMostly 9 = .ok (.if_icmp .ge 33, 3) := by decide +kernel
theorem dX5_isMostly_12 : decode cX5_isMostly 12 = .ok (.iload_n 2, 1) := by decide +kernel
theorem dX5_isMostly_13 : decode cX5_isMostly 13 = .ok (.aload_n 0, 1) := by decide +kernel
theorem dX5_isMostly_14 : decode cX5_isMostly 14 = .ok (.getfield 13, 3) := by decide +kernel
theorem dX5_isMostly_17 : decode cX5_isMostly 17 = .ok (.iload_n 3, 1) := by decide +kernel
theorem dX5_isMostly_18 : decode cX5_isMostly 18 = .ok (.iaload, 1) := by decide +kernel
theorem dX5_isMostly_19 : decode cX5_isMostly 19 = .ok (.iload_n 1, 1) := by decide +kernel
theorem dX5_isMostly_20 : decode cX5_isMostly 20 = .ok (.iand, 1) := by decide +kernel
theorem dX5_isMostly_21 : decode cX5_isMostly 21 = .ok (.ifCond .eq 12, 3) := by decide +kernel
theorem dX5_isMostly_24 : decode cX5_isMostly 24 = .ok (.aload_n 0, 1) := by decide +kernel
theorem dX5_isMostly_25 : decode cX5_isMostly 25 = .ok (.getfield 7, 3) := by decide +kernel
theorem dX5_isMostly_28 : decode cX5_isMostly 28 = .ok (.iload_n 3, 1) := by decide +kernel
theorem dX5_isMostly_29 : decode cX5_isMostly 29 = .ok (.iaload, 1) := by decide +kernel
theorem dX5_isMostly_30 : decode cX5_isMostly 30 = .ok (.goto 4, 3) := by decide +kernel
theorem dX5_isMostly_33 : decode cX5_isMostly 33 = .ok (.iconst 0, 1) := by decide +kernel
theorem dX5_isMostly_34 : decode cX5_isMostly 34 = .ok (.iadd, 1) := by decide +kernel
theorem dX5_isMostly_35 : decode cX5_isMostly 35 = .ok (.istore_n 2, 1) := by decide +kernel
theorem dX5_isMostly_36 : decode cX5_isMostly 36 = .ok (.iinc 3 1, 3) := by decide +kernel
theorem dX5_isMostly_39 : decode cX5_isMostly 39 = .ok (.goto (-35), 3) := by decide +kernel
theorem dX5_isMostly_42 : decode cX5_isMostly 42 = .ok (.iload_n 2, 1) := by decide +kernel
theorem dX5_isMostly_43 : decode cX5_isMostly 43 = .ok (.aload_n 0, 1) := by decide +kernel
theorem dX5_isMostly_44 : decode cX5_isMostly 44 = .ok (.getfield 26, 3) := by decide +kernel
theorem dX5_isMostly_47 : decode cX5_isMostly 47 = .ok (.iload_n 2, 1) := by decide +kernel
theorem dX5_isMostly_48 : decode cX5_isMostly 48 = .ok (.isub, 1) := by decide +kernel
theorem dX5_isMostly_49 : decode cX5_isMostly 49 = .ok (.if_icmp .le 7, 3) := by decide +kernel
theorem dX5_isMostly_52 : decode cX5_isMostly 52 = .ok (.iconst 1, 1) := by decide +kernel
theorem dX5_isMostly_53 : decode cX5_isMostly 53 = .ok (.goto 4, 3) := by decide +kernel
theorem dX5_isMostly_56 : decode cX5_isMostly 56 = .ok (.iconst 0, 1) := by decide +kernel
theorem dX5_isMostly_57 : decode cX5_isMostly 57 = .ok (.ireturn, 1) := by decide +kernel
theorem dX5_amountUpToLastUnlike_0 : decode cX5_amountUpToLastUnlike 0 = .ok (.iconst 0, 1) := by decide +kernel
theorem dX5_amountUpToLastUnlike_1 : decode cX5_amountUpToLastUnlike 1 = .ok (.istore_n 2, 1) := by decide +kernel
theorem dX5_amountUpToLastUnlike_2 : decode cX5_amountUpToLastUnlike 2 = .ok (.iconst 0, 1) := by decide +kernel
theorem dX5_amountUpToLastUnlike_3 : decode cX5_amountUpToLastUnlike 3 = .ok (.istore_n 3, 1) := by decide +kernel
theorem dX5_amountUpToLastUnlike_4 : decode cX5_amountUpToLastUnlike 4 = .ok (.iconst 0, 1) := by decide +kernel
theorem dX5_amountUpToLastUnlike_5 : decode cX5_amountUpToLastUnlike 5 = .ok (.istore 4, 2) := by decide +kernel
theorem dX5_amountUpToLastUnlike_7 : decode cX5_amountUpToLastUnlike 7 = .ok (.iload 4, 2) := by decide +kernel
theorem dX5_amountUpToLastUnlike_9 : decode cX5_amountUpToLastUnlike 9 = .ok (.aload_n 0, 1) := by decide +kernel
theorem dX5_amountUpToLastUnlike_10 : decode cX5_amountUpToLastUnlike 10 = .ok (.getfield 16, 3) := by decide +kernel
theorem dX5_amountUpToLastUnlike_13 : decode cX5_amountUpToLastUnlike 13 = .ok (.if_icmp .ge 32, 3) := by decide +kernel
theorem dX5_amountUpToLastUnlike_16 : decode cX5_amountUpToLastUnlike 16 = .ok (.iload_n 2, 1) := by decide +kernel
theorem dX5_amountUpToLastUnlike_17 : decode cX5_amountUpToLastUnlike 17 = .ok (.aload_n 0, 1) := by decide +kernel
theorem dX5_amountUpToLastUnlike_18 : decode cX5_amountUpToLastUnlike 18 = .ok (.getfield 7, 3) := by decide +kernel
theorem dX5_amountUpToLastUnlike_21 : decode cX5_amountUpToLastUnlike 21 = .ok (.iload 4, 2) := by decide +kernel
theorem dX5_amountUpToLastUnlike_23 : decode cX5_amountUpToLastUnlike 23 = .ok (.iaload, 1) := by decide +kernel
theorem dX5_amountUpToLastUnlike_24 : decode cX5_amountUpToLastUnlike 24 = .ok (.iadd, 1) := by decide +kernel
theorem dX5_amountUpToLastUnlike_25 : decode cX5_amountUpToLastUnlike 25 = .ok (.istore_n 2, 1) := by decide +kernel
theorem dX5_amountUpToLastUnlike_26 : decode cX5_amountUpToLastUnlike 26 = .ok (.aload_n 0, 1) := by decide +kernel
theorem dX5_amountUpToLastUnlike_27 : decode cX5_amountUpToLastUnlike 27 = .ok (.getfield 13, 3) := by decide +kernel
theorem dX5_amountUpToLastUnlike_30 : decode cX5_amountUpToLastUnlike 30 = .ok (.iload 4, 2) := by decide +kernel
theorem dX5_amountUpToLastUnlike_32 : decode cX5_amountUpToLastUnlike 32 = .ok (.iaload, 1) := by decide +kernel
theorem dX5_amountUpToLastUnlike_33 : decode cX5_amountUpToLastUnlike 33 = .ok (.iload_n 1, 1) := by decide +kernel
theorem dX5_amountUpToLastUnlike_34 : decode cX5_amountUpToLastUnlike 34 = .ok (.if_icmp .eq 5, 3) := by decide +kernel
theorem dX5_amountUpToLastUnlike_37 : decode cX5_amountUpToLastUnlike 37 = .ok (.iload_n 2, 1) := by decide +kernel
theorem dX5_amountUpToLastUnlike_38 : decode cX5_amountUpToLastUnlike 38 = .ok (.istore_n 3, 1) := by decide +kernel
theorem dX5_amountUpToLastUnlike_39 : decode cX5_amountUpToLastUnlike 39 = .ok (.iinc 4 1, 3) := by decide +kernel
theorem dX5_amountUpToLastUnlike_42 : decode cX5_amountUpToLastUnlike 42 = .ok (.goto (-35), 3) := by decide +kernel
theorem dX5_amountUpToLastUnlike_45 : decode cX5_amountUpToLastUnlike 45 = .ok (.iload_n 3, 1) := by decide +kernel
theorem dX5_amountUpToLastUnlike_46 : decode cX5_amountUpToLastUnlike 46 = .ok (.ireturn, 1) := by decide +kernel
theorem dX6_init_0 : decode cX6_init 0 = .ok (.aload_n 0, 1) := by decide +kernel
theorem dX6_init_1 : decode cX6_init 1 = .ok (.invokespecial 3, 3) := by decide +kernel
theorem dX6_init_4 : decode cX6_init 4 = .ok (.aload_n 0, 1) := by decide +kernel
theorem dX6_init_5 : decode cX6_init 5 = .ok (.bipush 96, 2) := by decide +kernel
theorem dX6_init_7 : decode cX6_init 7 = .ok (.newarray .int, 2) := by decide +kernel
theorem dX6_init_9 : decode cX6_init 9 = .ok (.putfield 11, 3) := by decide +kernel
theorem dX6_init_12 : decode cX6_init 12 = .ok (.return_, 1) := by decide +kernel
theorem dX6_copyFrom_0 : decode cX6_copyFrom 0 = .ok (.aload_n 1, 1) := by decide +kernel
theorem dX6_copyFrom_1 : decode cX6_copyFrom 1 = .ok (.getfield 11, 3) := by decide +kernel
theorem dX6_copyFrom_4 : decode cX6_copyFrom 4 = .ok (.iconst 0, 1) := by decide +kernel
theorem dX6_copyFrom_5 : decode cX6_copyFrom 5 = .ok (.aload_n 0, 1) := by decide +kernel
theorem dX6_copyFrom_6 : decode cX6_copyFrom 6 = .ok (.getfield 11, 3) := by decide +kernel
theorem dX6_copyFrom_9 : decode cX6_copyFrom 9 = .ok (.iconst 0, 1) := by decide +kernel
theorem dX6_copyFrom_10 : decode cX6_copyFrom 10 = .ok (.aload_n 0, 1) := by decide +kernel
theorem dX6_copyFrom_11 : decode cX6_copyFrom 11 = .ok (.getfield 11, 3) := by decide +kernel
theorem dX6_copyFrom_14 : decode cX6_copyFrom 14 = .ok (.arraylength, 1) := by decide +kernel
theorem dX6_copyFrom_15 : decode cX6_copyFrom 15 = .ok (.invokestatic 15, 3) := by decide +kernel
theorem dX6_copyFrom_18 : decode cX6_copyFrom 18 = .ok (.aload_n 0, 1) := by decide +kernel
theorem dX6_copyFrom_19 : decode cX6_copyFrom 19 = .ok (.aload_n 1, 1) := by decide +kernel
theorem dX6_copyFrom_20 : decode cX6_copyFrom 20 = .ok (.getfield 21, 3) := by decide +kernel
theorem dX6_copyFrom_23 : decode cX6_copyFrom 23 = .ok (.putfield 21, 3) := by decide +kernel
theorem dX6_copyFrom_26 : decode cX6_copyFrom 26 = .ok (.aload_n 0, 1) := by decide +kernel
theorem dX6_copyFrom_27 : decode cX6_copyFrom 27 = .ok (.aload_n 1, 1) := by decide +kernel
theorem dX6_copyFrom_28 : decode cX6_copyFrom 28 = .ok (.getfield 25, 3) := by decide +kernel
theorem dX6_copyFrom_31 : decode cX6_copyFrom 31 = .ok (.putfield 25, 3) := by decide +kernel
theorem dX6_copyFrom_34 : decode cX6_copyFrom 34 = .ok (.return_, 1) := by decide +kernel
theorem dX6_add_0 : decode cX6_add 0 = .ok (.aload_n 0, 1) := by decide +kernel
theorem dX6_add_1 : decode cX6_add 1 = .ok (.getfield 11, 3) := by decide +kernel
theorem dX6_add_4 : decode cX6_add 4 = .ok (.iconst 0, 1) := by decide +kernel
theorem dX6_add_5 : decode cX6_add 5 = .ok (.aload_n 0, 1) := by decide +kernel
theorem dX6_add_6 : decode cX6_add 6 = .ok (.getfield 11, 3) := by decide +kernel
theorem dX6_add_9 : decode cX6_add 9 = .ok (.bipush 8, 2) := by decide +kernel
theorem dX6_add_11 : decode cX6_add 11 = .ok (.aload_n 0, 1) := by decide +kernel
theorem dX6_add_12 : decode cX6_add 12 = .ok (.getfield 11, 3) := by decide +kernel
theorem dX6_add_15 : decode cX6_add 15 = .ok (.arraylength, 1) := by decide +kernel
theorem dX6_add_16 : decode cX6_add 16 = .ok (.bipush 8, 2) := by decide +kernel
theorem dX6_add_18 : decode cX6_add 18 = .ok (.isub, 1) := by decide +kernel
theorem dX6_add_19 : decode cX6_add 19 = .ok (.invokestatic 15, 3) := by decide +kernel
theorem dX6_add_22 : decode cX6_add 22 = .ok (.aload_n 0, 1) := by decide +kernel
theorem dX6_add_23 : decode cX6_add 23 = .ok (.getfield 11, 3) := by decide +kernel
theorem dX6_add_26 : decode cX6_add 26 = .ok (.iconst 0, 1) := by decide +kernel
theorem dX6_add_27 : decode cX6_add 27 = .ok (.aload_n 0, 1) := by decide +kernel
theorem dX6_add_28 : decode cX6_add 28 = .ok (.getfield 25, 3) := by decide +kernel
theorem dX6_add_31 : decode cX6_add 31 = .ok (.iastore, 1) := by decide +kernel
theorem dX6_add_32 : decode cX6_add 32 = .ok (.aload_n 0, 1) := by decide +kernel
theorem dX6_add_33 : decode cX6_add 33 = .ok (.getfield 11, 3) := by decide +kernel
theorem dX6_add_36 : decode cX6_add 36 = .ok (.iconst 1, 1) := by decide +kernel
theorem dX6_add_37 : decode cX6_add 37 = .ok (.iload_n 1, 1) := by decide +kernel
theorem dX6_add_38 : decode cX6_add 38 = .ok (.iastore, 1) := by decide +kernel
theorem dX6_add_39 : decode cX6_add 39 = .ok (.aload_n 0, 1) := by decide +kernel
theorem dX6_add_40 : decode cX6_add 40 = .ok (.getfield 11, 3) := by decide +kernel
theorem dX6_add_43 : decode cX6_add 43 = .ok (.iconst 2, 1) := by decide +kernel
theorem dX6_add_44 : decode cX6_add 44 = .ok (.iload_n 2, 1) := by decide +kernel
theorem dX6_add_45 : decode cX6_add 45 = .ok (.iastore, 1) := by decide +kernel
theorem dX6_add_46 : decode cX6_add 46 = .ok (.aload_n 0, 1) := by decide +kernel
theorem dX6_add_47 : decode cX6_add 47 = .ok (.getfield 11, 3) := by decide +kernel
theorem dX6_add_50 : decode cX6_add 50 = .ok (.iconst 3, 1) := by decide +kernel
theorem dX6_add_51 : decode cX6_add 51 = .ok (.iload_n 3, 1) := by decide +kernel
theorem dX6_add_52 : decode cX6_add 52 = .ok (.iastore, 1) := by decide +kernel
theorem dX6_add_53 : decode cX6_add 53 = .ok (.aload_n 0, 1) := by decide +kernel
theorem dX6_add_54 : decode cX6_add 54 = .ok (.getfield 11, 3) := by decide +kernel
theorem dX6_add_57 : decode cX6_add 57 = .ok (.iconst 4, 1) := by decide +kernel
theorem dX6_add_58 : decode cX6_add 58 = .ok (.iload 4, 2) := by decide +kernel
theorem dX6_add_60 : decode cX6_add 60 = .ok (.iastore, 1) := by decide +kernel
theorem dX6_add_61 : decode cX6_add 61 = .ok (.aload_n 0, 1) := by decide +kernel
theorem dX6_add_62 : decode cX6_add 62 = .ok (.getfield 11, 3) := by decide +kernel
theorem dX6_add_65 : decode cX6_add 65 = .ok (.bipush 6, 2) := by decide +kernel
theorem dX6_add_67 : decode cX6_add 67 = .ok (.iload 5, 2) := by decide +kernel
theorem dX6_add_69 : decode cX6_add 69 = .ok (.iastore, 1) := by decide +kernel
theorem dX6_add_70 : decode cX6_add 70 = .ok (.aload_n 0, 1) := by decide +kernel
theorem dX6_add_71 : decode cX6_add 71 = .ok (.getfield 11, 3) := by decide +kernel
theorem dX6_add_74 : decode cX6_add 74 = .ok (.bipush 7, 2) := by decide +kernel
theorem dX6_add_76 : decode cX6_add 76 = .ok (.iload 6, 2) := by decide +kernel
theorem dX6_add_78 : decode cX6_add 78 = .ok (.iastore, 1) := by decide +kernel
theorem dX6_add_79 : decode cX6_add 79 = .ok (.aload_n 0, 1) := by decide +kernel
theorem dX6_add_80 : decode cX6_add 80 = .ok (.bipush 12, 2) := by decide +kernel
theorem dX6_add_82 : decode cX6_add 82 = .ok (.aload_n 0, 1) := by decide +kernel
theorem dX6_add_83 : decode cX6_add 83 = .ok (.getfield 21, 3) := by decide +kernel
theorem dX6_add_86 : decode cX6_add 86 = .ok (.iconst 1, 1) := by decide +kernel
theorem dX6_add_87 : decode cX6_add 87 = .ok (.iadd, 1) := by decide +kernel
theorem dX6_add_88 : decode cX6_add 88 = .ok (.invokestatic 28, 3) := by decide +kernel
theorem dX6_add_91 : decode cX6_add 91 = .ok (.putfield 21, 3) := by decide +kernel
theorem dX6_add_94 : decode cX6_add 94 = .ok (.aload_n 0, 1) := by decide +kernel
theorem dX6_add_95 : decode cX6_add 95 = .ok (.dup, 1) := by decide +kernel
theorem dX6_add_96 : decode cX6_add 96 = .ok (.getfield 25, 3) := by decide +kernel
theorem dX6_add_99 : decode cX6_add 99 = .ok (.iconst 1, 1) := by decide +kernel
theorem dX6_add_100 : decode cX6_add 100 = .ok (.iadd, 1) := by decide +kernel
theorem dX6_add_101 : decode cX6_add 101 = .ok (.putfield 25, 3) := by decide +kernel
theorem dX6_add_104 : decode cX6_add 104 = .ok (.return_, 1) := by decide +kernel
theorem dX6_latestTime_0 : decode cX6_latestTime 0 = .ok (.aload_n 0, 1) := by decide +kernel
theorem dX6_latestTime_1 : decode cX6_latestTime 1 = .ok (.getfield 11, 3) := by decide +kernel
theorem dX6_latestTime_4 : decode cX6_latestTime 4 = .ok (.iconst 1, 1) := by decide +kernel
theorem dX6_latestTime_5 : decode cX6_latestTime 5 = .ok (.iaload, 1) := by decide +kernel
theorem dX6_latestTime_6 : decode cX6_latestTime 6 = .ok (.ireturn, 1) := by decide +kernel
set_option maxRecDepth 20000 in
theorem ggX6_tell_X6_awayFrom : GoodIn wsX6_tell wsX6_awayFrom := goodIn_r _ [8, 3, 9, 10, 11, 12, 13, 14, 15] (by decide +kernel) (by decide +kernel)
set_option maxRecDepth 20000 in
theorem gX6_tell_X6_awayFrom : GoodIn wsX6_tell (wsV RX6 35 RX6 yX6_awayFrom wsX6_awayFrom) := goodIn_app (goodIn_of _ (by decide +kernel)) ggX6_tell_X6_awayFrom
theorem dX6_tell_0 : decode cX6_tell 0 = .ok (.iload_n 1, 1) := by decide +kernel
theorem dX6_tell_1 : decode cX6_tell 1 = .ok (.ifCond .lt 21, 3) := by decide +kernel
theorem dX6_tell_4 : decode cX6_tell 4 = .ok (.iload_n 1, 1) := by decide +kernel
theorem dX6_tell_5 : decode cX6_tell 5 = .ok (.aload_n 0, 1) := by decide +kernel
theorem dX6_tell_6 : decode cX6_tell 6 = .ok (.getfield 21, 3) := by decide +kernel
theorem dX6_tell_9 : decode cX6_tell 9 = .ok (.if_icmp .ge 13, 3) := by decide +kernel
theorem dX6_tell_12 : decode cX6_tell 12 = .ok (.iload_n 2, 1) := by decide +kernel
theorem dX6_tell_13 : decode cX6_tell 13 = .ok (.ifCond .lt 9, 3) := by decide +kernel
theorem dX6_tell_16 : decode cX6_tell 16 = .ok (.iload_n 2, 1) := by decide +kernel
theorem dX6_tell_17 : decode cX6_tell 17 = .ok (.bipush 8, 2) := by decide +kernel
theorem dX6_tell_19 : decode cX6_tell 19 = .ok (.if_icmp .lt 6, 3) := by decide +kernel
theorem dX6_tell_22 : decode cX6_tell 22 = .ok (.ldc 34, 2) := by decide +kernel
theorem dX6_tell_24 : decode cX6_tell 24 = .ok (.ireturn, 1) := by decide +kernel
theorem dX6_tell_25 : decode cX6_tell 25 = .ok (.iload_n 2, 1) := by decide +kernel
theorem dX6_tell_26 : decode cX6_tell 26 = .ok (.iconst 5, 1) := by decide +kernel
theorem dX6_tell_27 : decode cX6_tell 27 = .ok (.if_icmp .ne 12, 3) := by decide +kernel
theorem dX6_tell_30 : decode cX6_tell 30 = .ok (.aload_n 0, 1) := by decide +kernel
theorem dX6_tell_31 : decode cX6_tell 31 = .ok (.iload_n 3, 1) := by decide +kernel
theorem dX6_tell_32 : decode cX6_tell 32 = .ok (.iload_n 1, 1) := by decide +kernel
theorem dX6_tell_33 : decode cX6_tell 33 = .ok (.invokevirtual 35, 3) := by decide +kernel
theorem dX6_tell_36 : decode cX6_tell 36 = .ok (.goto 14, 3) := by decide +kernel
theorem dX6_tell_39 : decode cX6_tell 39 = .ok (.aload_n 0, 1) := by decide +kernel
theorem dX6_tell_40 : decode cX6_tell 40 = .ok (.getfield 11, 3) := by decide +kernel
theorem dX6_tell_43 : decode cX6_tell 43 = .ok (.iload_n 1, 1) := by decide +kernel
theorem dX6_tell_44 : decode cX6_tell 44 = .ok (.bipush 8, 2) := by decide +kernel
theorem dX6_tell_46 : decode cX6_tell 46 = .ok (.imul, 1) := by decide +kernel
theorem dX6_tell_47 : decode cX6_tell 47 = .ok (.iload_n 2, 1) := by decide +kernel
theorem dX6_tell_48 : decode cX6_tell 48 = .ok (.iadd, 1) := by decide +kernel
theorem dX6_tell_49 : decode cX6_tell 49 = .ok (.iaload, 1) := by decide +kernel
theorem dX6_tell_50 : decode cX6_tell 50 = .ok (.ireturn, 1) := by decide +kernel
theorem dX6_awayFrom_0 : decode cX6_awayFrom 0 = .ok (.aload_n 0, 1) := by decide +kernel
theorem dX6_awayFrom_1 : decode cX6_awayFrom 1 = .ok (.getfield 11, 3) := by decide +kernel
theorem dX6_awayFrom_4 : decode cX6_awayFrom 4 = .ok (.iload_n 2, 1) := by decide +kernel
theorem dX6_awayFrom_5 : decode cX6_awayFrom 5 = .ok (.bipush 8, 2) := by decide +kernel
theorem dX6_awayFrom_7 : decode cX6_awayFrom 7 = .ok (.imul, 1) := by decide +kernel
theorem dX6_awayFrom_8 : decode cX6_awayFrom 8 = .ok (.iconst 1, 1) := by decide +kernel
theorem dX6_awayFrom_9 : decode cX6_awayFrom 9 = .ok (.iadd, 1) := by decide +kernel
theorem dX6_awayFrom_10 : decode cX6_awayFrom 10 = .ok (.iaload, 1) := by decide +kernel
theorem dX6_awayFrom_11 : decode cX6_awayFrom 11 = .ok (.iload_n 1, 1) := by decide +kernel
theorem dX6_awayFrom_12 : decode cX6_awayFrom 12 = .ok (.isub, 1) := by decide +kernel
theorem dX6_awayFrom_13 : decode cX6_awayFrom 13 = .ok (.invokestatic 38, 3) := by decide +kernel
theorem dX6_awayFrom_16 : decode cX6_awayFrom 16 = .ok (.ireturn, 1) := by decide +kernel
set_option maxRecDepth 20000 in
theorem ggX6_numberAtPlace_X6_placeOf : GoodIn wsX6_numberAtPlace wsX6_placeOf := goodIn_r _ [8, 1, 9, 10, 11, 7, 12, 2, 13, 14, 15, 16, 17, 18, 19] (by decide +kernel) (by decide +kernel)
set_option maxRecDepth 20000 in
theorem gX6_numberAtPlace_X6_placeOf : GoodIn wsX6_numberAtPlace (wsV RX6 42 RX6 yX6_placeOf wsX6_placeOf) := goodIn_app (goodIn_of _ (by decide +kernel)) ggX6_numberAtPlace_X6_placeOf
theorem dX6_numberAtPlace_0 : decode cX6_numberAtPlace 0 = .ok (.iconst 0, 1) := by decide +kernel
theorem dX6_numberAtPlace_1 : decode cX6_numberAtPlace 1 = .ok (.istore_n 3, 1) := by decide +kernel
theorem dX6_numberAtPlace_2 : decode cX6_numberAtPlace 2 = .ok (.iload_n 3, 1) := by decide +kernel
theorem dX6_numberAtPlace_3 : decode cX6_numberAtPlace 3 = .ok (.aload_n 0, 1) := by decide +kernel
theorem dX6_numberAtPlace_4 : decode cX6_numberAtPlace 4 = .ok (.getfield 21, 3) := by decide +kernel
theorem dX6_numberAtPlace_7 : decode cX6_numberAtPlace 7 = .ok (.if_icmp .ge 31, 3) := by decide +kernel
theorem dX6_numberAtPlace_10 : decode cX6_numberAtPlace 10 = .ok (.aload_n 0, 1) := by decide +kernel
theorem dX6_numberAtPlace_11 : decode cX6_numberAtPlace 11 = .ok (.iload_n 3, 1) := by decide +kernel
theorem dX6_numberAtPlace_12 : decode cX6_numberAtPlace 12 = .ok (.iload_n 2, 1) := by decide +kernel
theorem dX6_numberAtPlace_13 : decode cX6_numberAtPlace 13 = .ok (.invokevirtual 42, 3) := by decide +kernel
theorem dX6_numberAtPlace_16 : decode cX6_numberAtPlace 16 = .ok (.iload_n 1, 1) := by decide +kernel
theorem dX6_numberAtPlace_17 : decode cX6_numberAtPlace 17 = .ok (.if_icmp .ne 15, 3) := by decide +kernel
theorem dX6_numberAtPlace_20 : decode cX6_numberAtPlace 20 = .ok (.aload_n 0, 1) := by decide +kernel
theorem dX6_numberAtPlace_21 : decode cX6_numberAtPlace 21 = .ok (.getfield 11, 3) := by decide +kernel
theorem dX6_numberAtPlace_24 : decode cX6_numberAtPlace 24 = .ok (.iload_n 3, 1) := by decide +kernel
theorem dX6_numberAtPlace_25 : decode cX6_numberAtPlace 25 = .ok (.bipush 8, 2) := by decide +kernel
theorem dX6_numberAtPlace_27 : decode cX6_numberAtPlace 27 = .ok (.imul, 1) := by decide +kernel
theorem dX6_numberAtPlace_28 : decode cX6_numberAtPlace 28 = .ok (.iconst 0, 1) := by decide +kernel
theorem dX6_numberAtPlace_29 : decode cX6_numberAtPlace 29 = .ok (.iadd, 1) := by decide +kernel
theorem dX6_numberAtPlace_30 : decode cX6_numberAtPlace 30 = .ok (.iaload, 1) := by decide +kernel
theorem dX6_numberAtPlace_31 : decode cX6_numberAtPlace 31 = .ok (.ireturn, 1) := by decide +kernel
theorem dX6_numberAtPlace_32 : decode cX6_numberAtPlace 32 = .ok (.iinc 3 1, 3) := by decide +kernel
theorem dX6_numberAtPlace_35 : decode cX6_numberAtPlace 35 = .ok (.goto (-33), 3) := by decide +kernel
theorem dX6_numberAtPlace_38 : decode cX6_numberAtPlace 38 = .ok (.ldc 34, 2) := by decide +kernel
theorem dX6_numberAtPlace_40 : decode cX6_numberAtPlace 40 = .ok (.ireturn, 1) := by decide +kernel
set_option maxRecDepth 20000 in
theorem ggX6_placeOf_X6_awayFrom : GoodIn wsX6_placeOf wsX6_awayFrom := goodIn_r _ [6, 7, 8, 9, 10, 11, 12, 13, 14] (by decide +kernel) (by decide +kernel)
set_option maxRecDepth 20000 in
theorem gX6_placeOf_X6_awayFrom : GoodIn wsX6_placeOf (wsV RX6 35 RX6 yX6_awayFrom wsX6_awayFrom) := goodIn_app (goodIn_of _ (by decide +kernel)) ggX6_placeOf_X6_awayFrom
theorem dX6_placeOf_0 : decode cX6_placeOf 0 = .ok (.aload_n 0, 1) := by decide +kernel
theorem dX6_placeOf_1 : decode cX6_placeOf 1 = .ok (.iload_n 2, 1) := by decide +kernel
theorem dX6_placeOf_2 : decode cX6_placeOf 2 = .ok (.iload_n 1, 1) := by decide +kernel
theorem dX6_placeOf_3 : decode cX6_placeOf 3 = .ok (.invokevirtual 35, 3) := by decide +kernel
theorem dX6_placeOf_6 : decode cX6_placeOf 6 = .ok (.istore_n 3, 1) := by decide +kernel
theorem dX6_placeOf_7 : decode cX6_placeOf 7 = .ok (.iconst 0, 1) := by decide +kernel
theorem dX6_placeOf_8 : decode cX6_placeOf 8 = .ok (.istore 4, 2) := by decide +kernel
theorem dX6_placeOf_10 : decode cX6_placeOf 10 = .ok (.iconst 0, 1) := by decide +kernel
theorem dX6_placeOf_11 : decode cX6_placeOf 11 = .ok (.istore 5, 2) := by decide +kernel
theorem dX6_placeOf_13 : decode cX6_placeOf 13 = .ok (.iload 5, 2) := by decide +kernel
theorem dX6_placeOf_15 : decode cX6_placeOf 15 = .ok (.aload_n 0, 1) := by decide +kernel
theorem dX6_placeOf_16 : decode cX6_placeOf 16 = .ok (.getfield 21, 3) := by decide +kernel
theorem dX6_placeOf_19 : decode cX6_placeOf 19 = .ok (.if_icmp .ge 39, 3) := by decide +kernel
theorem dX6_placeOf_22 : decode cX6_placeOf 22 = .ok (.aload_n 0, 1) := by decide +kernel
theorem dX6_placeOf_23 : decode cX6_placeOf 23 = .ok (.iload_n 2, 1) := by decide +kernel
theorem dX6_placeOf_24 : decode cX6_placeOf 24 = .ok (.iload 5, 2) := by decide +kernel
theorem dX6_placeOf_26 : decode cX6_placeOf 26 = .ok (.invokevirtual 35, 3) := by decide +kernel
theorem dX6_placeOf_29 : decode cX6_placeOf 29 = .ok (.istore 6, 2) := by decide +kernel
theorem dX6_placeOf_31 : decode cX6_placeOf 31 = .ok (.iload 6, 2) := by decide +kernel
theorem dX6_placeOf_33 : decode cX6_placeOf 33 = .ok (.iload_n 3, 1) := by decide +kernel
theorem dX6_placeOf_34 : decode cX6_placeOf 34 = .ok (.if_icmp .lt 15, 3) := by decide +kernel
theorem dX6_placeOf_37 : decode cX6_placeOf 37 = .ok (.iload 6, 2) := by decide +kernel
theorem dX6_placeOf_39 : decode cX6_placeOf 39 = .ok (.iload_n 3, 1) := by decide +kernel
theorem dX6_placeOf_40 : decode cX6_placeOf 40 = .ok (.if_icmp .ne 12, 3) := by decide +kernel
theorem dX6_placeOf_43 : decode cX6_placeOf 43 = .ok (.iload 5, 2) := by decide +kernel
theorem dX6_placeOf_45 : decode cX6_placeOf 45 = .ok (.iload_n 1, 1) := by decide +kernel
theorem dX6_placeOf_46 : decode cX6_placeOf 46 = .ok (.if_icmp .ge 6, 3) := by decide +kernel
theorem dX6_placeOf_49 : decode cX6_placeOf 49 = .ok (.iinc 4 1, 3) := by decide +kernel
theorem dX6_placeOf_52 : decode cX6_placeOf 52 = .ok (.iinc 5 1, 3) := by decide +kernel
theorem dX6_placeOf_55 : decode cX6_placeOf 55 = .ok (.goto (-42), 3) := by decide +kernel
theorem dX6_placeOf_58 : decode cX6_placeOf 58 = .ok (.iload 4, 2) := by decide +kernel
theorem dX6_placeOf_60 : decode cX6_placeOf 60 = .ok (.ireturn, 1) := by decide +kernel
set_option maxRecDepth 20000 in
theorem ggX7_init_X2_init : GoodIn wsX7_init wsX2_init := goodIn_r _ [18, 19, 2, 3, 20, 13, 14, 21, 22, 23, 24, 25, 26, 27, 28, 29, 30, 31, 32, 33, 34, 35, 36, 37, 38, 39, 40, 41, 42, 43, 44, 45, 46, 47, 48, 49, 50, 51, 52, 53, 54, 55, 56, 57, 58, 59, 60, 61, 62, 63, 64, 65, 66, 67, 92, 93, 94, 95, 96, 97, 98, 99, 100, 101, 102, 103, 104, 73, 74, 75, 76, 77, 105, 106, 107, 108, 109, 110, 111, 112, 113, 114, 115, 116] (by decide +kernel) (by decide +kernel)
set_option maxRecDepth 20000 in
theorem gX7_init_X2_init_n9 : GoodIn wsX7_init (wsX2_init) := ggX7_init_X2_init
set_option maxRecDepth 20000 in
theorem ggX7_init_X4_init : GoodIn wsX7_init wsX4_init := goodIn_r _ [69, 70, 2, 3, 71, 72, 82, 83, 84, 85, 86, 87, 88, 89, 90, 91] (by decide +kernel) (by decide +kernel)
set_option maxRecDepth 20000 in
theorem gX7_init_X4_init_n18 : GoodIn wsX7_init (wsX4_init) := ggX7_init_X4_init
set_option maxRecDepth 20000 in
theorem ggX7_init_X1_init : GoodIn wsX7_init wsX1_init := goodIn_r _ [26, 27, 2, 3, 28, 29, 30, 31, 32, 33, 34, 35, 36, 37, 38, 39, 40, 41, 42, 43, 44, 45, 46, 47, 48, 49, 50, 51, 52, 53, 54, 55, 56, 57, 58, 59, 60, 61, 62, 63, 64, 65, 66, 67, 105, 92, 93, 94, 95, 96, 97, 98, 99, 100, 101, 102, 103, 104, 106, 107, 108, 109, 110, 111, 112, 113, 114, 115, 116] (by decide +kernel) (by decide +kernel)
set_option maxRecDepth 20000 in
theorem gX7_init_X1_init_n25 : GoodIn wsX7_init (wsX1_init) := ggX7_init_X1_init
theorem dX7_init_0 : decode cX7_init 0 = .ok (.aload_n 0, 1) := by decide +kernel
theorem dX7_init_1 : decode cX7_init 1 = .ok (.invokespecial 1, 3) := by decide +kernel
theorem dX7_init_4 : decode cX7_init 4 = .ok (.aload_n 0, 1) := by decide +kernel
theorem dX7_init_5 : decode cX7_init 5 = .ok (.new 7, 3) := by decide +kernel
theorem dX7_init_8 : decode cX7_init 8 = .ok (.dup, 1) := by decide +kernel
theorem dX7_init_9 : decode cX7_init 9 = .ok (.invokespecial 9, 3) := by decide +kernel
theorem dX7_init_12 : decode cX7_init 12 = .ok (.putfield 10, 3) := by decide +kernel
theorem dX7_init_15 : decode cX7_init 15 = .ok (.aload_n 0, 1) := by decide +kernel
theorem dX7_init_16 : decode cX7_init 16 = .ok (.new 16, 3) := by decide +kernel
theorem dX7_init_19 : decode cX7_init 19 = .ok (.dup, 1) := by decide +kernel
theorem dX7_init_20 : decode cX7_init 20 = .ok (.invokespecial 18, 3) := by decide +kernel
theorem dX7_init_23 : decode cX7_init 23 = .ok (.putfield 19, 3) := by decide +kernel
theorem dX7_init_26 : decode cX7_init 26 = .ok (.aload_n 0, 1) := by decide +kernel
theorem dX7_init_27 : decode cX7_init 27 = .ok (.new 23, 3) := by decide +kernel
theorem dX7_init_30 : decode cX7_init 30 = .ok (.dup, 1) := by decide +kernel
theorem dX7_init_31 : decode cX7_init 31 = .ok (.invokespecial 25, 3) := by decide +kernel
theorem dX7_init_34 : decode cX7_init 34 = .ok (.putfield 26, 3) := by decide +kernel
theorem dX7_init_37 : decode cX7_init 37 = .ok (.aload_n 0, 1) := by decide +kernel
theorem dX7_init_38 : decode cX7_init 38 = .ok (.new 23, 3) := by decide +kernel
theorem dX7_init_41 : decode cX7_init 41 = .ok (.dup, 1) := by decide +kernel
theorem dX7_init_42 : decode cX7_init 42 = .ok (.invokespecial 25, 3) := by decide +kernel
theorem dX7_init_45 : decode cX7_init 45 = .ok (.putfield 30, 3) := by decide +kernel
theorem dX7_init_48 : decode cX7_init 48 = .ok (.return_, 1) := by decide +kernel
set_option maxRecDepth 20000 in
theorem ggX7_fill_X7_spareLikeNow : GoodIn wsX7_fill wsX7_spareLikeNow := goodIn_r _ [5, 6, 7, 8, 9, 10, 11, 12, 13, 14, 15, 16, 17, 18, 19, 20, 21, 22, 23, 24, 25, 26, 27, 28, 29, 30, 31, 32, 33, 34, 35, 36, 37, 38, 39, 40, 41, 42, 43, 44, 45, 46, 47, 48, 49, 50, 51, 52, 53, 54, 55, 56, 57, 58, 59, 60, 61, 62, 63, 64, 65, 66, 67, 68, 121, 122, 123, 124, 125, 126, 127, 128, 129, 130, 131, 132, 133, 134, 135, 136, 137, 138, 139, 140, 141, 142, 143, 144, 145, 146, 147, 148, 149] (by decide +kernel) (by decide +kernel)
set_option maxRecDepth 20000 in
theorem gX7_fill_X7_spareLikeNow : GoodIn wsX7_fill (wsV RX7 33 RX7 yX7_spareLikeNow wsX7_spareLikeNow) := goodIn_app (goodIn_of _ (by decide +kernel)) ggX7_fill_X7_spareLikeNow
set_option maxRecDepth 20000 in
theorem ggX7_fill_X1_fillIn : GoodIn wsX7_fill wsX1_fillIn := goodIn_r _ [72, 73, 13, 74, 25, 75, 4, 76, 77, 78, 79, 33, 80, 35, 81, 82, 83, 84, 85, 86, 87, 39, 88, 41, 49, 89, 90, 91, 92, 93, 94, 95, 96, 42, 47, 97, 98, 99, 100, 101, 102, 103, 104, 125, 126, 127, 128, 129, 130, 131, 132, 133, 134, 135, 136, 137, 138, 139, 140, 141, 142] (by decide +kernel) (by decide +kernel)
set_option maxRecDepth 20000 in
theorem gX7_fill_X1_fillIn : GoodIn wsX7_fill (wsV RX7 37 RX1 yX1_fillIn wsX1_fillIn) := goodIn_app (goodIn_of _ (by decide +kernel)) ggX7_fill_X1_fillIn
set_option maxRecDepth 20000 in
theorem ggX7_fill_X7_keepIfDone : GoodIn wsX7_fill wsX7_keepIfDone := goodIn_r _ [108, 7, 6, 109, 110, 111, 112, 113, 114, 115, 116, 117, 118, 119, 120, 44, 45, 46, 121, 122, 123, 124, 150, 151, 152, 153, 154] (by decide +kernel) (by decide +kernel)
set_option maxRecDepth 20000 in
theorem gX7_fill_X7_keepIfDone : GoodIn wsX7_fill (wsV RX7 41 RX7 yX7_keepIfDone wsX7_keepIfDone) := goodIn_app (goodIn_of _ (by decide +kernel)) ggX7_fill_X7_keepIfDone
theorem dX7_fill_0 : decode cX7_fill 0 = .ok (.aload_n 0, 1) := by decide +kernel
theorem dX7_fill_1 : decode cX7_fill 1 = .ok (.aload_n 0, 1) := by decide +kernel
theorem dX7_fill_2 : decode cX7_fill 2 = .ok (.invokevirtual 33, 3) := by decide +kernel
theorem dX7_fill_5 : decode cX7_fill 5 = .ok (.iload_n 1, 1) := by decide +kernel
theorem dX7_fill_6 : decode cX7_fill 6 = .ok (.iload_n 2, 1) := by decide +kernel
theorem dX7_fill_7 : decode cX7_fill 7 = .ok (.invokevirtual 37, 3) := by decide +kernel
theorem dX7_fill_10 : decode cX7_fill 10 = .ok (.invokevirtual 41, 3) := by decide +kernel
theorem dX7_fill_13 : decode cX7_fill 13 = .ok (.ireturn, 1) := by decide +kernel
set_option maxRecDepth 20000 in
theorem ggX7_grind_X7_spareLikeNow : GoodIn wsX7_grind wsX7_spareLikeNow := goodIn_r _ [5, 6, 7, 8, 9, 10, 11, 12, 13, 14, 15, 16, 17, 18, 19, 20, 21, 22, 23, 24, 25, 26, 27, 28, 29, 30, 31, 32, 33, 34, 35, 36, 37, 38, 39, 40, 41, 42, 43, 44, 45, 46, 47, 48, 49, 50, 51, 52, 53, 54, 55, 56, 57, 58, 59, 60, 61, 62, 63, 64, 65, 66, 67, 68, 148, 149, 150, 151, 152, 153, 154, 155, 156, 157, 158, 159, 160, 161, 162, 163, 164, 165, 166, 167, 168, 169, 170, 171, 172, 173, 174, 175, 176] (by decide +kernel) (by decide +kernel)
set_option maxRecDepth 20000 in
theorem gX7_grind_X7_spareLikeNow : GoodIn wsX7_grind (wsV RX7 33 RX7 yX7_spareLikeNow wsX7_spareLikeNow) := goodIn_app (goodIn_of _ (by decide +kernel)) ggX7_grind_X7_spareLikeNow
set_option maxRecDepth 20000 in
theorem ggX7_grind_X1_grindBy : GoodIn wsX7_grind wsX1_grindBy := goodIn_r _ [72, 73, 13, 74, 16, 19, 75, 76, 45, 77, 17, 78, 26, 79, 4, 80, 81, 82, 83, 33, 84, 35, 85, 86, 87, 11, 88, 14, 15, 89, 90, 91, 53, 92, 55, 93, 94, 95, 96, 56, 97, 98, 99, 100, 101, 102, 103, 104, 105, 106, 39, 107, 41, 42, 43, 44, 46, 49, 47, 108, 109, 110, 111, 112, 113, 114, 115, 48, 21, 22, 23, 116, 117, 118, 119, 120, 57, 121, 122, 123, 124, 125, 24, 126, 127, 128, 129, 130, 131, 152, 153, 154, 155, 156, 157, 158, 159, 160, 161, 162, 163, 164, 166, 167, 168, 169, 165, 170, 171, 172, 173] (by decide +kernel) (by decide +kernel)
set_option maxRecDepth 20000 in
theorem gX7_grind_X1_grindBy : GoodIn wsX7_grind (wsV RX7 45 RX1 yX1_grindBy wsX1_grindBy) := goodIn_app (goodIn_of _ (by decide +kernel)) ggX7_grind_X1_grindBy
set_option maxRecDepth 20000 in
theorem ggX7_grind_X7_keepIfDone : GoodIn wsX7_grind wsX7_keepIfDone := goodIn_r _ [135, 7, 6, 136, 137, 138, 139, 140, 141, 142, 143, 144, 145, 146, 147, 44, 45, 46, 148, 149, 150, 151, 177, 178, 179, 180, 181] (by decide +kernel) (by decide +kernel)
set_option maxRecDepth 20000 in
theorem gX7_grind_X7_keepIfDone : GoodIn wsX7_grind (wsV RX7 41 RX7 yX7_keepIfDone wsX7_keepIfDone) := goodIn_app (goodIn_of _ (by decide +kernel)) ggX7_grind_X7_keepIfDone
theorem dX7_grind_0 : decode cX7_grind 0 = .ok (.aload_n 0, 1) := by decide +kernel
theorem dX7_grind_1 : decode cX7_grind 1 = .ok (.aload_n 0, 1) := by decide +kernel
theorem dX7_grind_2 : decode cX7_grind 2 = .ok (.invokevirtual 33, 3) := by decide +kernel
theorem dX7_grind_5 : decode cX7_grind 5 = .ok (.iload_n 1, 1) := by decide +kernel
theorem dX7_grind_6 : decode cX7_grind 6 = .ok (.iload_n 2, 1) := by decide +kernel
theorem dX7_grind_7 : decode cX7_grind 7 = .ok (.invokevirtual 45, 3) := by decide +kernel
theorem dX7_grind_10 : decode cX7_grind 10 = .ok (.invokevirtual 41, 3) := by decide +kernel
theorem dX7_grind_13 : decode cX7_grind 13 = .ok (.ireturn, 1) := by decide +kernel
set_option maxRecDepth 20000 in
theorem ggX7_dial_X7_spareLikeNow : GoodIn wsX7_dial wsX7_spareLikeNow := goodIn_r _ [5, 6, 7, 8, 9, 10, 11, 12, 13, 14, 15, 16, 17, 18, 19, 20, 21, 22, 23, 24, 25, 26, 27, 28, 29, 30, 31, 32, 33, 34, 35, 36, 37, 38, 39, 40, 41, 42, 43, 44, 45, 46, 47, 48, 49, 50, 51, 52, 53, 54, 55, 56, 57, 58, 59, 60, 61, 62, 63, 64, 65, 66, 67, 68, 96, 97, 98, 99, 100, 101, 102, 103, 104, 105, 106, 107, 108, 109, 110, 111, 112, 113, 114, 115, 116, 117, 118, 119, 120, 121, 122, 123, 124] (by decide +kernel) (by decide +kernel)
set_option maxRecDepth 20000 in
theorem gX7_dial_X7_spareLikeNow : GoodIn wsX7_dial (wsV RX7 33 RX7 yX7_spareLikeNow wsX7_spareLikeNow) := goodIn_app (goodIn_of _ (by decide +kernel)) ggX7_dial_X7_spareLikeNow
set_option maxRecDepth 20000 in
theorem ggX7_dial_X1_turnDial : GoodIn wsX7_dial wsX1_turnDial := goodIn_r _ [72, 73, 74, 4, 75, 76, 77, 78, 11, 79, 14, 15, 118, 119, 120, 121, 100, 101, 102, 103, 104, 105, 106, 107, 108, 109, 110, 111, 112] (by decide +kernel) (by decide +kernel)
set_option maxRecDepth 20000 in
theorem gX7_dial_X1_turnDial : GoodIn wsX7_dial (wsV RX7 48 RX1 yX1_turnDial wsX1_turnDial) := goodIn_app (goodIn_of _ (by decide +kernel)) ggX7_dial_X1_turnDial
set_option maxRecDepth 20000 in
theorem ggX7_dial_X7_keepIfDone : GoodIn wsX7_dial wsX7_keepIfDone := goodIn_r _ [83, 7, 6, 84, 85, 86, 87, 88, 89, 90, 91, 92, 93, 94, 95, 44, 45, 46, 96, 97, 98, 99, 125, 126, 127, 128, 129] (by decide +kernel) (by decide +kernel)
set_option maxRecDepth 20000 in
theorem gX7_dial_X7_keepIfDone : GoodIn wsX7_dial (wsV RX7 41 RX7 yX7_keepIfDone wsX7_keepIfDone) := goodIn_app (goodIn_of _ (by decide +kernel)) ggX7_dial_X7_keepIfDone
theorem dX7_dial_0 : decode cX7_dial 0 = .ok (.aload_n 0, 1) := by decide +kernel
theorem dX7_dial_1 : decode cX7_dial 1 = .ok (.aload_n 0, 1) := by decide +kernel
theorem dX7_dial_2 : decode cX7_dial 2 = .ok (.invokevirtual 33, 3) := by decide +kernel
theorem dX7_dial_5 : decode cX7_dial 5 = .ok (.iload_n 1, 1) := by decide +kernel
theorem dX7_dial_6 : decode cX7_dial 6 = .ok (.iload_n 2, 1) := by decide +kernel
theorem dX7_dial_7 : decode cX7_dial 7 = .ok (.invokevirtual 48, 3) := by decide +kernel
theorem dX7_dial_10 : decode cX7_dial 10 = .ok (.invokevirtual 41, 3) := by decide +kernel
theorem dX7_dial_13 : decode cX7_dial 13 = .ok (.ireturn, 1) := by decide +kernel
set_option maxRecDepth 20000 in
theorem ggX7_rest_X7_spareLikeNow : GoodIn wsX7_rest wsX7_spareLikeNow := goodIn_r _ [5, 6, 7, 8, 9, 10, 11, 12, 13, 14, 15, 16, 17, 18, 19, 20, 21, 22, 23, 24, 25, 26, 27, 28, 29, 30, 31, 32, 33, 34, 35, 36, 37, 38, 39, 40, 41, 42, 43, 44, 45, 46, 47, 48, 49, 50, 51, 52, 53, 54, 55, 56, 57, 58, 59, 60, 61, 62, 63, 64, 65, 66, 67, 68, 100, 101, 102, 103, 104, 105, 106, 107, 108, 109, 110, 111, 112, 113, 114, 115, 116, 117, 118, 119, 120, 121, 122, 123, 124, 125, 126, 127, 128] (by decide +kernel) (by decide +kernel)
set_option maxRecDepth 20000 in
theorem gX7_rest_X7_spareLikeNow : GoodIn wsX7_rest (wsV RX7 33 RX7 yX7_spareLikeNow wsX7_spareLikeNow) := goodIn_app (goodIn_of _ (by decide +kernel)) ggX7_rest_X7_spareLikeNow
set_option maxRecDepth 20000 in
theorem ggX7_rest_X1_letPass : GoodIn wsX7_rest wsX1_letPass := goodIn_r _ [72, 73, 14, 15, 74, 75, 76, 11, 77, 24, 78, 79, 80, 53, 81, 56, 82, 4, 83, 104, 105, 106, 107, 108, 109, 110, 111, 112, 113, 114, 115, 116, 122, 123, 124, 125] (by decide +kernel) (by decide +kernel)
set_option maxRecDepth 20000 in
theorem gX7_rest_X1_letPass : GoodIn wsX7_rest (wsV RX7 51 RX1 yX1_letPass wsX1_letPass) := goodIn_app (goodIn_of _ (by decide +kernel)) ggX7_rest_X1_letPass
set_option maxRecDepth 20000 in
theorem ggX7_rest_X7_keepIfDone : GoodIn wsX7_rest wsX7_keepIfDone := goodIn_r _ [87, 7, 6, 88, 89, 90, 91, 92, 93, 94, 95, 96, 97, 98, 99, 44, 45, 46, 100, 101, 102, 103, 129, 130, 131, 132, 133] (by decide +kernel) (by decide +kernel)
set_option maxRecDepth 20000 in
theorem gX7_rest_X7_keepIfDone : GoodIn wsX7_rest (wsV RX7 41 RX7 yX7_keepIfDone wsX7_keepIfDone) := goodIn_app (goodIn_of _ (by decide +kernel)) ggX7_rest_X7_keepIfDone
theorem dX7_rest_0 : decode cX7_rest 0 = .ok (.aload_n 0, 1) := by decide +kernel
theorem dX7_rest_1 : decode cX7_rest 1 = .ok (.aload_n 0, 1) := by decide +kernel
theorem dX7_rest_2 : decode cX7_rest 2 = .ok (.invokevirtual 33, 3) := by decide +kernel
theorem dX7_rest_5 : decode cX7_rest 5 = .ok (.iload_n 1, 1) := by decide +kernel
theorem dX7_rest_6 : decode cX7_rest 6 = .ok (.invokevirtual 51, 3) := by decide +kernel
theorem dX7_rest_9 : decode cX7_rest 9 = .ok (.invokevirtual 41, 3) := by decide +kernel
theorem dX7_rest_12 : decode cX7_rest 12 = .ok (.ireturn, 1) := by decide +kernel
set_option maxRecDepth 20000 in
theorem ggX7_shot_X7_spareLikeNow : GoodIn wsX7_shot wsX7_spareLikeNow := goodIn_r _ [5, 6, 7, 8, 9, 10, 11, 12, 13, 14, 15, 16, 17, 18, 19, 20, 21, 22, 23, 24, 25, 26, 27, 28, 29, 30, 31, 32, 33, 34, 35, 36, 37, 38, 39, 40, 41, 42, 43, 44, 45, 46, 47, 48, 49, 50, 51, 52, 53, 54, 55, 56, 57, 58, 59, 60, 61, 62, 63, 64, 65, 66, 67, 68, 158, 159, 160, 161, 162, 163, 164, 165, 166, 167, 168, 169, 170, 171, 172, 173, 174, 175, 176, 177, 178, 179, 180, 181, 182, 183, 184, 185, 186] (by decide +kernel) (by decide +kernel)
set_option maxRecDepth 20000 in
theorem gX7_shot_X7_spareLikeNow : GoodIn wsX7_shot (wsV RX7 33 RX7 yX7_spareLikeNow wsX7_spareLikeNow) := goodIn_app (goodIn_of _ (by decide +kernel)) ggX7_shot_X7_spareLikeNow
set_option maxRecDepth 20000 in
theorem ggX7_shot_X1_makeShot : GoodIn wsX7_shot wsX1_makeShot := goodIn_r _ [72, 17, 18, 24, 27, 73, 74, 75, 11, 76, 77, 78, 79, 80, 39, 81, 41, 42, 82, 83, 84, 85, 49, 86, 87, 88, 89, 90, 4, 91, 92, 93, 94, 95, 19, 96, 97, 98, 99, 100, 101, 102, 103, 47, 104, 105, 106, 63, 107, 65, 66, 21, 22, 23, 68, 67, 108, 44, 45, 46, 109, 110, 111, 112, 113, 114, 115, 116, 14, 15, 117, 118, 119, 120, 121, 122, 123, 29, 124, 125, 126, 53, 127, 55, 128, 129, 130, 131, 58, 132, 133, 134, 135, 136, 137, 138, 139, 56, 140, 141, 162, 163, 164, 165, 166, 167, 168, 169, 170, 171, 172, 173, 174, 176, 177, 178, 179, 184, 185, 186, 180, 181, 182, 183] (by decide +kernel) (by decide +kernel)
set_option maxRecDepth 20000 in
theorem gX7_shot_X1_makeShot : GoodIn wsX7_shot (wsV RX7 54 RX1 yX1_makeShot wsX1_makeShot) := goodIn_app (goodIn_of _ (by decide +kernel)) ggX7_shot_X1_makeShot
set_option maxRecDepth 20000 in
theorem ggX7_shot_X7_keepIfDone : GoodIn wsX7_shot wsX7_keepIfDone := goodIn_r _ [145, 7, 6, 146, 147, 148, 149, 150, 151, 152, 153, 154, 155, 156, 157, 44, 45, 46, 158, 159, 160, 161, 187, 188, 189, 190, 191] (by decide +kernel) (by decide +kernel)
set_option maxRecDepth 20000 in
theorem gX7_shot_X7_keepIfDone : GoodIn wsX7_shot (wsV RX7 41 RX7 yX7_keepIfDone wsX7_keepIfDone) := goodIn_app (goodIn_of _ (by decide +kernel)) ggX7_shot_X7_keepIfDone
theorem dX7_shot_0 : decode cX7_shot 0 = .ok (.aload_n 0, 1) := by decide +kernel
theorem dX7_shot_1 : decode cX7_shot 1 = .ok (.aload_n 0, 1) := by decide +kernel
theorem dX7_shot_2 : decode cX7_shot 2 = .ok (.invokevirtual 33, 3) := by decide +kernel
theorem dX7_shot_5 : decode cX7_shot 5 = .ok (.invokevirtual 54, 3) := by decide +kernel
theorem dX7_shot_8 : decode cX7_shot 8 = .ok (.invokevirtual 41, 3) := by decide +kernel
theorem dX7_shot_11 : decode cX7_shot 11 = .ok (.ireturn, 1) := by decide +kernel
set_option maxRecDepth 20000 in
theorem ggX7_purge_X7_spareLikeNow : GoodIn wsX7_purge wsX7_spareLikeNow := goodIn_r _ [5, 6, 7, 8, 9, 10, 11, 12, 13, 14, 15, 16, 17, 18, 19, 20, 21, 22, 23, 24, 25, 26, 27, 28, 29, 30, 31, 32, 33, 34, 35, 36, 37, 38, 39, 40, 41, 42, 43, 44, 45, 46, 47, 48, 49, 50, 51, 52, 53, 54, 55, 56, 57, 58, 59, 60, 61, 62, 63, 64, 65, 66, 67, 68, 93, 94, 95, 96, 97, 98, 99, 100, 101, 102, 103, 104, 105, 106, 107, 108, 109, 110, 111, 112, 113, 114, 115, 116, 117, 118, 119, 120, 121] (by decide +kernel) (by decide +kernel)
set_option maxRecDepth 20000 in
theorem gX7_purge_X7_spareLikeNow : GoodIn wsX7_purge (wsV RX7 33 RX7 yX7_spareLikeNow wsX7_spareLikeNow) := goodIn_app (goodIn_of _ (by decide +kernel)) ggX7_purge_X7_spareLikeNow
set_option maxRecDepth 20000 in
theorem ggX7_purge_X1_emptyChute : GoodIn wsX7_purge wsX1_emptyChute := goodIn_r _ [72, 16, 28, 73, 74, 75, 39, 76, 41, 47, 97, 98, 99, 100, 101, 102, 103, 104, 105, 106, 107, 108, 109, 111, 112, 113, 114] (by decide +kernel) (by decide +kernel)
set_option maxRecDepth 20000 in
theorem gX7_purge_X1_emptyChute : GoodIn wsX7_purge (wsV RX7 58 RX1 yX1_emptyChute wsX1_emptyChute) := goodIn_app (goodIn_of _ (by decide +kernel)) ggX7_purge_X1_emptyChute
set_option maxRecDepth 20000 in
theorem ggX7_purge_X7_keepIfDone : GoodIn wsX7_purge wsX7_keepIfDone := goodIn_r _ [80, 7, 6, 81, 82, 83, 84, 85, 86, 87, 88, 89, 90, 91, 92, 44, 45, 46, 93, 94, 95, 96, 122, 123, 124, 125, 126] (by decide +kernel) (by decide +kernel)
set_option maxRecDepth 20000 in
theorem gX7_purge_X7_keepIfDone : GoodIn wsX7_purge (wsV RX7 41 RX7 yX7_keepIfDone wsX7_keepIfDone) := goodIn_app (goodIn_of _ (by decide +kernel)) ggX7_purge_X7_keepIfDone
theorem dX7_purge_0 : decode cX7_purge 0 = .ok (.aload_n 0, 1) := by decide +kernel
theorem dX7_purge_1 : decode cX7_purge 1 = .ok (.aload_n 0, 1) := by decide +kernel
theorem dX7_purge_2 : decode cX7_purge 2 = .ok (.invokevirtual 33, 3) := by decide +kernel
theorem dX7_purge_5 : decode cX7_purge 5 = .ok (.invokevirtual 58, 3) := by decide +kernel
theorem dX7_purge_8 : decode cX7_purge 8 = .ok (.invokevirtual 41, 3) := by decide +kernel
theorem dX7_purge_11 : decode cX7_purge 11 = .ok (.ireturn, 1) := by decide +kernel
set_option maxRecDepth 20000 in
theorem ggX7_correct_X7_spareLikeNow : GoodIn wsX7_correct wsX7_spareLikeNow := goodIn_r _ [5, 6, 7, 8, 9, 10, 11, 12, 13, 14, 15, 16, 17, 18, 19, 20, 21, 22, 23, 24, 25, 26, 27, 28, 29, 30, 31, 32, 33, 34, 35, 36, 37, 38, 39, 40, 41, 42, 43, 44, 45, 46, 47, 48, 49, 50, 51, 52, 53, 54, 55, 56, 57, 58, 59, 60, 61, 62, 63, 64, 65, 66, 67, 68, 109, 110, 111, 112, 113, 114, 115, 116, 117, 118, 119, 120, 121, 122, 123, 124, 125, 126, 127, 128, 129, 130, 131, 132, 133, 134, 135, 136, 137] (by decide +kernel) (by decide +kernel)
set_option maxRecDepth 20000 in
theorem gX7_correct_X7_spareLikeNow : GoodIn wsX7_correct (wsV RX7 33 RX7 yX7_spareLikeNow wsX7_spareLikeNow) := goodIn_app (goodIn_of _ (by decide +kernel)) ggX7_correct_X7_spareLikeNow
set_option maxRecDepth 20000 in
theorem ggX7_correct_X1_correctByLatest : GoodIn wsX7_correct wsX1_correctByLatest := goodIn_r _ [72, 73, 18, 74, 19, 75, 4, 76, 77, 78, 79, 11, 80, 14, 15, 81, 82, 83, 63, 84, 65, 85, 86, 87, 53, 88, 55, 89, 90, 45, 91, 92, 44, 46, 58, 113, 114, 115, 116, 117, 118, 119, 120, 121, 122, 123, 124, 125, 135, 136, 137, 131, 132, 133, 134] (by decide +kernel) (by decide +kernel)
set_option maxRecDepth 20000 in
theorem gX7_correct_X1_correctByLatest : GoodIn wsX7_correct (wsV RX7 61 RX1 yX1_correctByLatest wsX1_correctByLatest) := goodIn_app (goodIn_of _ (by decide +kernel)) ggX7_correct_X1_correctByLatest
set_option maxRecDepth 20000 in
theorem ggX7_correct_X7_keepIfDone : GoodIn wsX7_correct wsX7_keepIfDone := goodIn_r _ [96, 7, 6, 97, 98, 99, 100, 101, 102, 103, 104, 105, 106, 107, 108, 44, 45, 46, 109, 110, 111, 112, 138, 139, 140, 141, 142] (by decide +kernel) (by decide +kernel)
set_option maxRecDepth 20000 in
theorem gX7_correct_X7_keepIfDone : GoodIn wsX7_correct (wsV RX7 41 RX7 yX7_keepIfDone wsX7_keepIfDone) := goodIn_app (goodIn_of _ (by decide +kernel)) ggX7_correct_X7_keepIfDone
theorem dX7_correct_0 : decode cX7_correct 0 = .ok (.aload_n 0, 1) := by decide +kernel
theorem dX7_correct_1 : decode cX7_correct 1 = .ok (.aload_n 0, 1) := by decide +kernel
theorem dX7_correct_2 : decode cX7_correct 2 = .ok (.invokevirtual 33, 3) := by decide +kernel
theorem dX7_correct_5 : decode cX7_correct 5 = .ok (.iload_n 1, 1) := by decide +kernel
theorem dX7_correct_6 : decode cX7_correct 6 = .ok (.invokevirtual 61, 3) := by decide +kernel
theorem dX7_correct_9 : decode cX7_correct 9 = .ok (.invokevirtual 41, 3) := by decide +kernel
theorem dX7_correct_12 : decode cX7_correct 12 = .ok (.ireturn, 1) := by decide +kernel
set_option maxRecDepth 20000 in
theorem ggX7_set_X7_spareLikeNow : GoodIn wsX7_set wsX7_spareLikeNow := goodIn_r _ [5, 6, 7, 8, 9, 10, 11, 12, 13, 14, 15, 16, 17, 18, 19, 20, 21, 22, 23, 24, 25, 26, 27, 28, 29, 30, 31, 32, 33, 34, 35, 36, 37, 38, 39, 40, 41, 42, 43, 44, 45, 46, 47, 48, 49, 50, 51, 52, 53, 54, 55, 56, 57, 58, 59, 60, 61, 62, 63, 64, 65, 66, 67, 68, 90, 91, 92, 93, 94, 95, 96, 97, 98, 99, 100, 101, 102, 103, 104, 105, 106, 107, 108, 109, 110, 111, 112, 113, 114, 115, 116, 117, 118] (by decide +kernel) (by decide +kernel)
set_option maxRecDepth 20000 in
theorem gX7_set_X7_spareLikeNow : GoodIn wsX7_set (wsV RX7 33 RX7 yX7_spareLikeNow wsX7_spareLikeNow) := goodIn_app (goodIn_of _ (by decide +kernel)) ggX7_set_X7_spareLikeNow
set_option maxRecDepth 20000 in
theorem ggX7_set_X1_changeSetting : GoodIn wsX7_set wsX1_changeSetting := goodIn_r _ [72, 19, 73, 94, 95, 96, 97, 98, 99, 100, 101, 102, 103, 104, 105, 106] (by decide +kernel) (by decide +kernel)
set_option maxRecDepth 20000 in
theorem gX7_set_X1_changeSetting : GoodIn wsX7_set (wsV RX7 64 RX1 yX1_changeSetting wsX1_changeSetting) := goodIn_app (goodIn_of _ (by decide +kernel)) ggX7_set_X1_changeSetting
set_option maxRecDepth 20000 in
theorem ggX7_set_X7_keepIfDone : GoodIn wsX7_set wsX7_keepIfDone := goodIn_r _ [77, 7, 6, 78, 79, 80, 81, 82, 83, 84, 85, 86, 87, 88, 89, 44, 45, 46, 90, 91, 92, 93, 119, 120, 121, 122, 123] (by decide +kernel) (by decide +kernel)
set_option maxRecDepth 20000 in
theorem gX7_set_X7_keepIfDone : GoodIn wsX7_set (wsV RX7 41 RX7 yX7_keepIfDone wsX7_keepIfDone) := goodIn_app (goodIn_of _ (by decide +kernel)) ggX7_set_X7_keepIfDone
theorem dX7_set_0 : decode cX7_set 0 = .ok (.aload_n 0, 1) := by decide +kernel
theorem dX7_set_1 : decode cX7_set 1 = .ok (.aload_n 0, 1) := by decide +kernel
theorem dX7_set_2 : decode cX7_set 2 = .ok (.invokevirtual 33, 3) := by decide +kernel
theorem dX7_set_5 : decode cX7_set 5 = .ok (.iload_n 1, 1) := by decide +kernel
theorem dX7_set_6 : decode cX7_set 6 = .ok (.iload_n 2, 1) := by decide +kernel
theorem dX7_set_7 : decode cX7_set 7 = .ok (.invokevirtual 64, 3) := by decide +kernel
theorem dX7_set_10 : decode cX7_set 10 = .ok (.invokevirtual 41, 3) := by decide +kernel
theorem dX7_set_13 : decode cX7_set 13 = .ok (.ireturn, 1) := by decide +kernel
set_option maxRecDepth 20000 in
theorem ggX7_burrOf_X7_isZeroOrOne : GoodIn wsX7_burrOf wsX7_isZeroOrOne := goodIn_r _ [6] (by decide +kernel) (by decide +kernel)
set_option maxRecDepth 20000 in
theorem gX7_burrOf_X7_isZeroOrOne : GoodIn wsX7_burrOf (va_wsS RX7 67 yX7_isZeroOrOne wsX7_isZeroOrOne) := goodIn_app (goodIn_of _ (by decide +kernel)) ggX7_burrOf_X7_isZeroOrOne
set_option maxRecDepth 20000 in
theorem ggX7_burrOf_X1_burrNumbered : GoodIn wsX7_burrOf wsX1_burrNumbered := goodIn_r _ [11, 12, 13, 39, 40, 41, 42, 43, 44, 45, 46, 47, 48, 49, 50, 51] (by decide +kernel) (by decide +kernel)
set_option maxRecDepth 20000 in
theorem gX7_burrOf_X1_burrNumbered : GoodIn wsX7_burrOf (wsV RX7 72 RX1 yX1_burrNumbered wsX1_burrNumbered) := goodIn_app (goodIn_of _ (by decide +kernel)) ggX7_burrOf_X1_burrNumbered
set_option maxRecDepth 20000 in
theorem ggX7_burrOf_X0_tell : GoodIn wsX7_burrOf wsX0_tell := goodIn_r _ [18, 19, 20, 21, 22, 23, 24, 25, 17, 26, 27, 28, 29, 30, 31, 32, 33, 34, 52, 53, 54, 55] (by decide +kernel) (by decide +kernel)
set_option maxRecDepth 20000 in
theorem gX7_burrOf_X0_tell : GoodIn wsX7_burrOf (wsV RX7 76 RX0 yX0_tell wsX0_tell) := goodIn_app (goodIn_of _ (by decide +kernel)) ggX7_burrOf_X0_tell
theorem dX7_burrOf_0 : decode cX7_burrOf 0 = .ok (.iload_n 1, 1) := by decide +kernel
theorem dX7_burrOf_1 : decode cX7_burrOf 1 = .ok (.invokestatic 67, 3) := by decide +kernel
theorem dX7_burrOf_4 : decode cX7_burrOf 4 = .ok (.ifCond .eq 12, 3) := by decide +kernel
theorem dX7_burrOf_7 : decode cX7_burrOf 7 = .ok (.iload_n 2, 1) := by decide +kernel
theorem dX7_burrOf_8 : decode cX7_burrOf 8 = .ok (.ifCond .lt 8, 3) := by decide +kernel
theorem dX7_burrOf_11 : decode cX7_burrOf 11 = .ok (.iload_n 2, 1) := by decide +kernel
theorem dX7_burrOf_12 : decode cX7_burrOf 12 = .ok (.iconst 4, 1) := by decide +kernel
theorem dX7_burrOf_13 : decode cX7_burrOf 13 = .ok (.if_icmp .le 6, 3) := by decide +kernel
theorem dX7_burrOf_16 : decode cX7_burrOf 16 = .ok (.ldc 71, 2) := by decide +kernel
theorem dX7_burrOf_18 : decode cX7_burrOf 18 = .ok (.ireturn, 1) := by decide +kernel
theorem dX7_burrOf_19 : decode cX7_burrOf 19 = .ok (.aload_n 0, 1) := by decide +kernel
theorem dX7_burrOf_20 : decode cX7_burrOf 20 = .ok (.getfield 26, 3) := by decide +kernel
theorem dX7_burrOf_23 : decode cX7_burrOf 23 = .ok (.iload_n 1, 1) := by decide +kernel
theorem dX7_burrOf_24 : decode cX7_burrOf 24 = .ok (.invokevirtual 72, 3) := by decide +kernel
theorem dX7_burrOf_27 : decode cX7_burrOf 27 = .ok (.iload_n 2, 1) := by decide +kernel
theorem dX7_burrOf_28 : decode cX7_burrOf 28 = .ok (.invokevirtual 76, 3) := by decide +kernel
theorem dX7_burrOf_31 : decode cX7_burrOf 31 = .ok (.ireturn, 1) := by decide +kernel
set_option maxRecDepth 20000 in
theorem ggX7_lotOf_X3_tell : GoodIn wsX7_lotOf wsX3_tell := goodIn_r _ [7, 8, 9, 10, 11, 12, 13, 14, 15, 16, 17, 18, 19, 20, 21, 39, 40, 41, 42, 43] (by decide +kernel) (by decide +kernel)
set_option maxRecDepth 20000 in
theorem gX7_lotOf_X3_tell : GoodIn wsX7_lotOf (wsV RX7 85 RX3 yX3_tell wsX3_tell) := goodIn_app (goodIn_of _ (by decide +kernel)) ggX7_lotOf_X3_tell
theorem dX7_lotOf_0 : decode cX7_lotOf 0 = .ok (.iload_n 1, 1) := by decide +kernel
theorem dX7_lotOf_1 : decode cX7_lotOf 1 = .ok (.ifCond .lt 12, 3) := by decide +kernel
theorem dX7_lotOf_4 : decode cX7_lotOf 4 = .ok (.iload_n 2, 1) := by decide +kernel
theorem dX7_lotOf_5 : decode cX7_lotOf 5 = .ok (.ifCond .lt 8, 3) := by decide +kernel
theorem dX7_lotOf_8 : decode cX7_lotOf 8 = .ok (.iload_n 2, 1) := by decide +kernel
theorem dX7_lotOf_9 : decode cX7_lotOf 9 = .ok (.iconst 1, 1) := by decide +kernel
theorem dX7_lotOf_10 : decode cX7_lotOf 10 = .ok (.if_icmp .le 6, 3) := by decide +kernel
theorem dX7_lotOf_13 : decode cX7_lotOf 13 = .ok (.ldc 71, 2) := by decide +kernel
theorem dX7_lotOf_15 : decode cX7_lotOf 15 = .ok (.ireturn, 1) := by decide +kernel
theorem dX7_lotOf_16 : decode cX7_lotOf 16 = .ok (.aload_n 0, 1) := by decide +kernel
theorem dX7_lotOf_17 : decode cX7_lotOf 17 = .ok (.getfield 26, 3) := by decide +kernel
theorem dX7_lotOf_20 : decode cX7_lotOf 20 = .ok (.getfield 81, 3) := by decide +kernel
theorem dX7_lotOf_23 : decode cX7_lotOf 23 = .ok (.iload_n 1, 1) := by decide +kernel
theorem dX7_lotOf_24 : decode cX7_lotOf 24 = .ok (.iload_n 2, 1) := by decide +kernel
theorem dX7_lotOf_25 : decode cX7_lotOf 25 = .ok (.invokevirtual 85, 3) := by decide +kernel
theorem dX7_lotOf_28 : decode cX7_lotOf 28 = .ok (.ireturn, 1) := by decide +kernel
set_option maxRecDepth 20000 in
theorem ggX7_portionOf_X7_isZeroOrOne : GoodIn wsX7_portionOf wsX7_isZeroOrOne := goodIn_r _ [6] (by decide +kernel) (by decide +kernel)
set_option maxRecDepth 20000 in
theorem gX7_portionOf_X7_isZeroOrOne : GoodIn wsX7_portionOf (va_wsS RX7 67 yX7_isZeroOrOne wsX7_isZeroOrOne) := goodIn_app (goodIn_of _ (by decide +kernel)) ggX7_portionOf_X7_isZeroOrOne
set_option maxRecDepth 20000 in
theorem ggX7_portionOf_X1_tellPortion : GoodIn wsX7_portionOf wsX1_tellPortion := goodIn_r _ [11, 12, 13, 14, 15, 16, 17, 18, 19, 20, 21, 22, 23, 24, 25, 5, 26, 27, 28, 29, 30, 31, 32, 33, 10, 34, 35, 36, 37, 38, 39, 40, 41, 59, 60, 61, 62, 46, 47, 48, 49, 50, 51, 52, 53, 54, 55, 56, 57, 58] (by decide +kernel) (by decide +kernel)
set_option maxRecDepth 20000 in
theorem gX7_portionOf_X1_tellPortion : GoodIn wsX7_portionOf (wsV RX7 96 RX1 yX1_tellPortion wsX1_tellPortion) := goodIn_app (goodIn_of _ (by decide +kernel)) ggX7_portionOf_X1_tellPortion
theorem dX7_portionOf_0 : decode cX7_portionOf 0 = .ok (.iload_n 1, 1) := by decide +kernel
theorem dX7_portionOf_1 : decode cX7_portionOf 1 = .ok (.invokestatic 67, 3) := by decide +kernel
theorem dX7_portionOf_4 : decode cX7_portionOf 4 = .ok (.ifCond .eq 16, 3) := by decide +kernel
theorem dX7_portionOf_7 : decode cX7_portionOf 7 = .ok (.iload_n 2, 1) := by decide +kernel
theorem dX7_portionOf_8 : decode cX7_portionOf 8 = .ok (.ifCond .lt 12, 3) := by decide +kernel
theorem dX7_portionOf_11 : decode cX7_portionOf 11 = .ok (.iload_n 3, 1) := by decide +kernel
theorem dX7_portionOf_12 : decode cX7_portionOf 12 = .ok (.ifCond .lt 8, 3) := by decide +kernel
theorem dX7_portionOf_15 : decode cX7_portionOf 15 = .ok (.iload_n 3, 1) := by decide +kernel
theorem dX7_portionOf_16 : decode cX7_portionOf 16 = .ok (.iconst 4, 1) := by decide +kernel
theorem dX7_portionOf_17 : decode cX7_portionOf 17 = .ok (.if_icmp .le 6, 3) := by decide +kernel
theorem dX7_portionOf_20 : decode cX7_portionOf 20 = .ok (.ldc 71, 2) := by decide +kernel
theorem dX7_portionOf_22 : decode cX7_portionOf 22 = .ok (.ireturn, 1) := by decide +kernel
theorem dX7_portionOf_23 : decode cX7_portionOf 23 = .ok (.aload_n 0, 1) := by decide +kernel
theorem dX7_portionOf_24 : decode cX7_portionOf 24 = .ok (.getfield 26, 3) := by decide +kernel
theorem dX7_portionOf_27 : decode cX7_portionOf 27 = .ok (.iload_n 1, 1) := by decide +kernel
theorem dX7_portionOf_28 : decode cX7_portionOf 28 = .ok (.ifCond .ne 13, 3) := by decide +kernel
theorem dX7_portionOf_31 : decode cX7_portionOf 31 = .ok (.aload_n 0, 1) := by decide +kernel
theorem dX7_portionOf_32 : decode cX7_portionOf 32 = .ok (.getfield 26, 3) := by decide +kernel
theorem dX7_portionOf_35 : decode cX7_portionOf 35 = .ok (.getfield 89, 3) := by decide +kernel
theorem dX7_portionOf_38 : decode cX7_portionOf 38 = .ok (.goto 10, 3) := by decide +kernel
theorem dX7_portionOf_41 : decode cX7_portionOf 41 = .ok (.aload_n 0, 1) := by decide +kernel
theorem dX7_portionOf_42 : decode cX7_portionOf 42 = .ok (.getfield 26, 3) := by decide +kernel
theorem dX7_portionOf_45 : decode cX7_portionOf 45 = .ok (.getfield 93, 3) := by decide +kernel
theorem dX7_portionOf_48 : decode cX7_portionOf 48 = .ok (.iload_n 2, 1) := by decide +kernel
theorem dX7_portionOf_49 : decode cX7_portionOf 49 = .ok (.iload_n 3, 1) := by decide +kernel
theorem dX7_portionOf_50 : decode cX7_portionOf 50 = .ok (.invokevirtual 96, 3) := by decide +kernel
theorem dX7_portionOf_53 : decode cX7_portionOf 53 = .ok (.ireturn, 1) := by decide +kernel
set_option maxRecDepth 20000 in
theorem ggX7_shotOf_X6_tell : GoodIn wsX7_shotOf wsX6_tell := goodIn_r _ [7, 8, 9, 10, 11, 12, 13, 6, 14, 15, 16, 17, 18, 36, 37, 38] (by decide +kernel) (by decide +kernel)
set_option maxRecDepth 20000 in
theorem gX7_shotOf_X6_tell : GoodIn wsX7_shotOf (wsV RX7 108 RX6 yX6_tell wsX6_tell) := goodIn_app (goodIn_of _ (by decide +kernel)) ggX7_shotOf_X6_tell
theorem dX7_shotOf_0 : decode cX7_shotOf 0 = .ok (.iload_n 1, 1) := by decide +kernel
theorem dX7_shotOf_1 : decode cX7_shotOf 1 = .ok (.ifCond .lt 13, 3) := by decide +kernel
theorem dX7_shotOf_4 : decode cX7_shotOf 4 = .ok (.iload_n 2, 1) := by decide +kernel
theorem dX7_shotOf_5 : decode cX7_shotOf 5 = .ok (.ifCond .lt 9, 3) := by decide +kernel
theorem dX7_shotOf_8 : decode cX7_shotOf 8 = .ok (.iload_n 2, 1) := by decide +kernel
theorem dX7_shotOf_9 : decode cX7_shotOf 9 = .ok (.bipush 7, 2) := by decide +kernel
theorem dX7_shotOf_11 : decode cX7_shotOf 11 = .ok (.if_icmp .le 6, 3) := by decide +kernel
theorem dX7_shotOf_14 : decode cX7_shotOf 14 = .ok (.ldc 71, 2) := by decide +kernel
theorem dX7_shotOf_16 : decode cX7_shotOf 16 = .ok (.ireturn, 1) := by decide +kernel
theorem dX7_shotOf_17 : decode cX7_shotOf 17 = .ok (.aload_n 0, 1) := by decide +kernel
theorem dX7_shotOf_18 : decode cX7_shotOf 18 = .ok (.getfield 26, 3) := by decide +kernel
theorem dX7_shotOf_21 : decode cX7_shotOf 21 = .ok (.getfield 100, 3) := by decide +kernel
theorem dX7_shotOf_24 : decode cX7_shotOf 24 = .ok (.iload_n 1, 1) := by decide +kernel
theorem dX7_shotOf_25 : decode cX7_shotOf 25 = .ok (.iload_n 2, 1) := by decide +kernel
theorem dX7_shotOf_26 : decode cX7_shotOf 26 = .ok (.aload_n 0, 1) := by decide +kernel
theorem dX7_shotOf_27 : decode cX7_shotOf 27 = .ok (.getfield 26, 3) := by decide +kernel
theorem dX7_shotOf_30 : decode cX7_shotOf 30 = .ok (.getfield 104, 3) := by decide +kernel
theorem dX7_shotOf_33 : decode cX7_shotOf 33 = .ok (.iconst 0, 1) := by decide +kernel
theorem dX7_shotOf_34 : decode cX7_shotOf 34 = .ok (.iaload, 1) := by decide +kernel
theorem dX7_shotOf_35 : decode cX7_shotOf 35 = .ok (.invokevirtual 108, 3) := by decide +kernel
theorem dX7_shotOf_38 : decode cX7_shotOf 38 = .ok (.ireturn, 1) := by decide +kernel
set_option maxRecDepth 20000 in
theorem ggX7_best_X6_numberAtPlace : GoodIn wsX7_best wsX6_numberAtPlace := goodIn_r _ [7, 8, 9, 10, 11, 12, 13, 6, 14, 15, 16, 17, 18, 19, 20, 21, 22, 40, 41, 42] (by decide +kernel) (by decide +kernel)
set_option maxRecDepth 20000 in
theorem gX7_best_X6_numberAtPlace : GoodIn wsX7_best (wsV RX7 113 RX6 yX6_numberAtPlace wsX6_numberAtPlace) := goodIn_app (goodIn_of _ (by decide +kernel)) ggX7_best_X6_numberAtPlace
theorem dX7_best_0 : decode cX7_best 0 = .ok (.iload_n 1, 1) := by decide +kernel
theorem dX7_best_1 : decode cX7_best 1 = .ok (.ifCond .ge 6, 3) := by decide +kernel
theorem dX7_best_4 : decode cX7_best 4 = .ok (.ldc 71, 2) := by decide +kernel
theorem dX7_best_6 : decode cX7_best 6 = .ok (.ireturn, 1) := by decide +kernel
theorem dX7_best_7 : decode cX7_best 7 = .ok (.aload_n 0, 1) := by decide +kernel
theorem dX7_best_8 : decode cX7_best 8 = .ok (.getfield 26, 3) := by decide +kernel
theorem dX7_best_11 : decode cX7_best 11 = .ok (.getfield 100, 3) := by decide +kernel
theorem dX7_best_14 : decode cX7_best 14 = .ok (.iload_n 1, 1) := by decide +kernel
theorem dX7_best_15 : decode cX7_best 15 = .ok (.aload_n 0, 1) := by decide +kernel
theorem dX7_best_16 : decode cX7_best 16 = .ok (.getfield 26, 3) := by decide +kernel
theorem dX7_best_19 : decode cX7_best 19 = .ok (.getfield 104, 3) := by decide +kernel
theorem dX7_best_22 : decode cX7_best 22 = .ok (.iconst 0, 1) := by decide +kernel
theorem dX7_best_23 : decode cX7_best 23 = .ok (.iaload, 1) := by decide +kernel
theorem dX7_best_24 : decode cX7_best 24 = .ok (.invokevirtual 113, 3) := by decide +kernel
theorem dX7_best_27 : decode cX7_best 27 = .ok (.ireturn, 1) := by decide +kernel
set_option maxRecDepth 20000 in
theorem ggX7_wouldTake_X7_spareLikeNow : GoodIn wsX7_wouldTake wsX7_spareLikeNow := goodIn_r _ [5, 6, 7, 8, 9, 10, 11, 12, 13, 14, 15, 16, 17, 18, 19, 20, 21, 22, 23, 24, 25, 26, 27, 28, 29, 30, 31, 32, 33, 34, 35, 36, 37, 38, 39, 40, 41, 42, 43, 44, 45, 46, 47, 48, 49, 50, 51, 52, 53, 54, 55, 56, 57, 58, 59, 60, 61, 62, 63, 64, 65, 66, 67, 68, 158, 159, 160, 161, 162, 163, 164, 165, 166, 167, 168, 169, 170, 171, 172, 173, 174, 175, 176, 177, 178, 179, 180, 181, 182, 183, 184, 185, 186] (by decide +kernel) (by decide +kernel)
set_option maxRecDepth 20000 in
theorem gX7_wouldTake_X7_spareLikeNow : GoodIn wsX7_wouldTake (wsV RX7 33 RX7 yX7_spareLikeNow wsX7_spareLikeNow) := goodIn_app (goodIn_of _ (by decide +kernel)) ggX7_wouldTake_X7_spareLikeNow
set_option maxRecDepth 20000 in
theorem ggX7_wouldTake_X1_grindBy : GoodIn wsX7_wouldTake wsX1_grindBy := goodIn_r _ [72, 73, 13, 74, 16, 19, 75, 76, 45, 77, 17, 78, 26, 79, 4, 80, 81, 82, 83, 33, 84, 35, 85, 86, 87, 11, 88, 14, 15, 89, 90, 91, 53, 92, 55, 93, 94, 95, 96, 56, 97, 98, 99, 100, 101, 102, 103, 104, 105, 106, 39, 107, 41, 42, 43, 44, 46, 49, 47, 108, 109, 110, 111, 112, 113, 114, 115, 48, 21, 22, 23, 116, 117, 118, 119, 120, 57, 121, 122, 123, 124, 125, 24, 126, 127, 128, 129, 130, 131, 162, 163, 164, 165, 166, 167, 168, 169, 170, 171, 172, 173, 174, 176, 177, 178, 179, 175, 180, 181, 182, 183] (by decide +kernel) (by decide +kernel)
set_option maxRecDepth 20000 in
theorem gX7_wouldTake_X1_grindBy : GoodIn wsX7_wouldTake (wsV RX7 45 RX1 yX1_grindBy wsX1_grindBy) := goodIn_app (goodIn_of _ (by decide +kernel)) ggX7_wouldTake_X1_grindBy
set_option maxRecDepth 20000 in
theorem ggX7_wouldTake_X1_timeOfBasket : GoodIn wsX7_wouldTake wsX1_timeOfBasket := goodIn_r _ [135, 17, 74, 136, 137, 138, 39, 139, 41, 42, 140, 141, 142, 143, 49, 144, 145, 146, 11, 147, 148, 4, 149, 150, 151, 152, 153, 19, 154, 155, 156, 157, 162, 163, 164, 165, 166, 167, 168, 169, 170, 171, 172, 173, 174, 176, 177, 178, 179] (by decide +kernel) (by decide +kernel)
set_option maxRecDepth 20000 in
theorem gX7_wouldTake_X1_timeOfBasket : GoodIn wsX7_wouldTake (wsV RX7 116 RX1 yX1_timeOfBasket wsX1_timeOfBasket) := goodIn_app (goodIn_of _ (by decide +kernel)) ggX7_wouldTake_X1_timeOfBasket
theorem dX7_wouldTake_0 : decode cX7_wouldTake 0 = .ok (.aload_n 0, 1) := by decide +kernel
theorem dX7_wouldTake_1 : decode cX7_wouldTake 1 = .ok (.invokevirtual 33, 3) := by decide +kernel
theorem dX7_wouldTake_4 : decode cX7_wouldTake 4 = .ok (.astore_n 3, 1) := by decide +kernel
theorem dX7_wouldTake_5 : decode cX7_wouldTake 5 = .ok (.aload_n 3, 1) := by decide +kernel
theorem dX7_wouldTake_6 : decode cX7_wouldTake 6 = .ok (.iload_n 1, 1) := by decide +kernel
theorem dX7_wouldTake_7 : decode cX7_wouldTake 7 = .ok (.iload_n 2, 1) := by decide +kernel
theorem dX7_wouldTake_8 : decode cX7_wouldTake 8 = .ok (.invokevirtual 45, 3) := by decide +kernel
theorem dX7_wouldTake_11 : decode cX7_wouldTake 11 = .ok (.istore 4, 2) := by decide +kernel
theorem dX7_wouldTake_13 : decode cX7_wouldTake 13 = .ok (.iload 4, 2) := by decide +kernel
theorem dX7_wouldTake_15 : decode cX7_wouldTake 15 = .ok (.ifCond .ge 8, 3) := by decide +kernel
theorem dX7_wouldTake_18 : decode cX7_wouldTake 18 = .ok (.iload 4, 2) := by decide +kernel
theorem dX7_wouldTake_20 : decode cX7_wouldTake 20 = .ok (.goto 7, 3) := by decide +kernel
theorem dX7_wouldTake_23 : decode cX7_wouldTake 23 = .ok (.aload_n 3, 1) := by decide +kernel
theorem dX7_wouldTake_24 : decode cX7_wouldTake 24 = .ok (.invokevirtual 116, 3) := by decide +kernel
theorem dX7_wouldTake_27 : decode cX7_wouldTake 27 = .ok (.ireturn, 1) := by decide +kernel
set_option maxRecDepth 20000 in
theorem ggX7_dialFor_X7_isZeroOrOne : GoodIn wsX7_dialFor wsX7_isZeroOrOne := goodIn_r _ [6] (by decide +kernel) (by decide +kernel)
set_option maxRecDepth 20000 in
theorem gX7_dialFor_X7_isZeroOrOne : GoodIn wsX7_dialFor (va_wsS RX7 67 yX7_isZeroOrOne wsX7_isZeroOrOne) := goodIn_app (goodIn_of _ (by decide +kernel)) ggX7_dialFor_X7_isZeroOrOne
set_option maxRecDepth 20000 in
theorem ggX7_dialFor_X1_burrNumbered : GoodIn wsX7_dialFor wsX1_burrNumbered := goodIn_r _ [11, 12, 13, 46, 47, 48, 49, 50, 51, 52, 53, 54, 55, 56, 57, 58] (by decide +kernel) (by decide +kernel)
set_option maxRecDepth 20000 in
theorem gX7_dialFor_X1_burrNumbered : GoodIn wsX7_dialFor (wsV RX7 72 RX1 yX1_burrNumbered wsX1_burrNumbered) := goodIn_app (goodIn_of _ (by decide +kernel)) ggX7_dialFor_X1_burrNumbered
set_option maxRecDepth 20000 in
theorem ggX7_dialFor_X1_nearestDial : GoodIn wsX7_dialFor wsX1_nearestDial := goodIn_r _ [17, 18, 19, 20, 10, 21, 22, 23, 24, 25, 26, 27, 28, 29, 30, 31, 32, 33, 34, 35, 36, 37, 38, 39, 40, 5, 41, 46, 47, 48, 49, 50, 51, 52, 53, 54, 55, 56, 57, 58, 59, 60, 61, 62] (by decide +kernel) (by decide +kernel)
set_option maxRecDepth 20000 in
theorem gX7_dialFor_X1_nearestDial : GoodIn wsX7_dialFor (wsV RX7 119 RX1 yX1_nearestDial wsX1_nearestDial) := goodIn_app (goodIn_of _ (by decide +kernel)) ggX7_dialFor_X1_nearestDial
theorem dX7_dialFor_0 : decode cX7_dialFor 0 = .ok (.iload_n 1, 1) := by decide +kernel
theorem dX7_dialFor_1 : decode cX7_dialFor 1 = .ok (.invokestatic 67, 3) := by decide +kernel
theorem dX7_dialFor_4 : decode cX7_dialFor 4 = .ok (.ifCond .eq 10, 3) := by decide +kernel
theorem dX7_dialFor_7 : decode cX7_dialFor 7 = .ok (.iload_n 2, 1) := by decide +kernel
theorem dX7_dialFor_8 : decode cX7_dialFor 8 = .ok (.invokestatic 67, 3) := by decide +kernel
theorem dX7_dialFor_11 : decode cX7_dialFor 11 = .ok (.ifCond .ne 6, 3) := by decide +kernel
theorem dX7_dialFor_14 : decode cX7_dialFor 14 = .ok (.ldc 71, 2) := by decide +kernel
theorem dX7_dialFor_16 : decode cX7_dialFor 16 = .ok (.ireturn, 1) := by decide +kernel
theorem dX7_dialFor_17 : decode cX7_dialFor 17 = .ok (.aload_n 0, 1) := by decide +kernel
theorem dX7_dialFor_18 : decode cX7_dialFor 18 = .ok (.getfield 26, 3) := by decide +kernel
theorem dX7_dialFor_21 : decode cX7_dialFor 21 = .ok (.aload_n 0, 1) := by decide +kernel
theorem dX7_dialFor_22 : decode cX7_dialFor 22 = .ok (.getfield 26, 3) := by decide +kernel
theorem dX7_dialFor_25 : decode cX7_dialFor 25 = .ok (.iload_n 1, 1) := by decide +kernel
theorem dX7_dialFor_26 : decode cX7_dialFor 26 = .ok (.invokevirtual 72, 3) := by decide +kernel
theorem dX7_dialFor_29 : decode cX7_dialFor 29 = .ok (.iload_n 2, 1) := by decide +kernel
theorem dX7_dialFor_30 : decode cX7_dialFor 30 = .ok (.invokevirtual 119, 3) := by decide +kernel
theorem dX7_dialFor_33 : decode cX7_dialFor 33 = .ok (.ireturn, 1) := by decide +kernel
set_option maxRecDepth 20000 in
theorem ggX7_stale_X7_isZeroOrOne : GoodIn wsX7_stale wsX7_isZeroOrOne := goodIn_r _ [6] (by decide +kernel) (by decide +kernel)
set_option maxRecDepth 20000 in
theorem gX7_stale_X7_isZeroOrOne : GoodIn wsX7_stale (va_wsS RX7 67 yX7_isZeroOrOne wsX7_isZeroOrOne) := goodIn_app (goodIn_of _ (by decide +kernel)) ggX7_stale_X7_isZeroOrOne
set_option maxRecDepth 20000 in
theorem ggX7_stale_X1_staleFor : GoodIn wsX7_stale wsX1_staleFor := goodIn_r _ [11, 12, 13, 14, 15, 16, 17, 18, 19, 20, 21, 22, 23, 24, 25, 26, 27, 28, 29, 30, 31, 32, 33, 34, 10, 35, 36, 37, 38, 39, 40, 41, 42, 43, 44, 45, 46, 47, 48, 49, 50, 51, 52, 53, 5, 54, 55, 56, 57, 58, 59, 64, 65, 66, 67, 68, 69, 70, 71, 72, 73, 74, 75, 76, 77, 78, 79, 80, 81, 82, 83, 84, 85] (by decide +kernel) (by decide +kernel)
set_option maxRecDepth 20000 in
theorem gX7_stale_X1_staleFor : GoodIn wsX7_stale (wsV RX7 123 RX1 yX1_staleFor wsX1_staleFor) := goodIn_app (goodIn_of _ (by decide +kernel)) ggX7_stale_X1_staleFor
theorem dX7_stale_0 : decode cX7_stale 0 = .ok (.iload_n 1, 1) := by decide +kernel
theorem dX7_stale_1 : decode cX7_stale 1 = .ok (.invokestatic 67, 3) := by decide +kernel
theorem dX7_stale_4 : decode cX7_stale 4 = .ok (.ifCond .ne 6, 3) := by decide +kernel
theorem dX7_stale_7 : decode cX7_stale 7 = .ok (.ldc 71, 2) := by decide +kernel
theorem dX7_stale_9 : decode cX7_stale 9 = .ok (.ireturn, 1) := by decide +kernel
theorem dX7_stale_10 : decode cX7_stale 10 = .ok (.aload_n 0, 1) := by decide +kernel
theorem dX7_stale_11 : decode cX7_stale 11 = .ok (.getfield 26, 3) := by decide +kernel
theorem dX7_stale_14 : decode cX7_stale 14 = .ok (.iload_n 1, 1) := by decide +kernel
theorem dX7_stale_15 : decode cX7_stale 15 = .ok (.invokevirtual 123, 3) := by decide +kernel
theorem dX7_stale_18 : decode cX7_stale 18 = .ok (.ireturn, 1) := by decide +kernel
set_option maxRecDepth 20000 in
theorem ggX7_coolAfter_X7_isZeroOrOne : GoodIn wsX7_coolAfter wsX7_isZeroOrOne := goodIn_r _ [6] (by decide +kernel) (by decide +kernel)
set_option maxRecDepth 20000 in
theorem gX7_coolAfter_X7_isZeroOrOne : GoodIn wsX7_coolAfter (va_wsS RX7 67 yX7_isZeroOrOne wsX7_isZeroOrOne) := goodIn_app (goodIn_of _ (by decide +kernel)) ggX7_coolAfter_X7_isZeroOrOne
set_option maxRecDepth 20000 in
theorem ggX7_coolAfter_X1_burrNumbered : GoodIn wsX7_coolAfter wsX1_burrNumbered := goodIn_r _ [11, 12, 13, 31, 32, 33, 34, 35, 36, 37, 38, 39, 40, 41, 42, 43] (by decide +kernel) (by decide +kernel)
set_option maxRecDepth 20000 in
theorem gX7_coolAfter_X1_burrNumbered : GoodIn wsX7_coolAfter (wsV RX7 72 RX1 yX1_burrNumbered wsX1_burrNumbered) := goodIn_app (goodIn_of _ (by decide +kernel)) ggX7_coolAfter_X1_burrNumbered
set_option maxRecDepth 20000 in
theorem ggX7_coolAfter_X1_secondsToCool : GoodIn wsX7_coolAfter wsX1_secondsToCool := goodIn_r _ [17, 18, 19, 20, 21, 22, 23, 24, 25, 5, 26, 31, 32, 33, 34, 35, 36, 37, 38, 39, 40, 41, 42, 43, 44, 45, 46, 47] (by decide +kernel) (by decide +kernel)
set_option maxRecDepth 20000 in
theorem gX7_coolAfter_X1_secondsToCool : GoodIn wsX7_coolAfter (wsV RX7 126 RX1 yX1_secondsToCool wsX1_secondsToCool) := goodIn_app (goodIn_of _ (by decide +kernel)) ggX7_coolAfter_X1_secondsToCool
theorem dX7_coolAfter_0 : decode cX7_coolAfter 0 = .ok (.iload_n 1, 1) := by decide +kernel
theorem dX7_coolAfter_1 : decode cX7_coolAfter 1 = .ok (.invokestatic 67, 3) := by decide +kernel
theorem dX7_coolAfter_4 : decode cX7_coolAfter 4 = .ok (.ifCond .eq 14, 3) := by decide +kernel
theorem dX7_coolAfter_7 : decode cX7_coolAfter 7 = .ok (.iload_n 2, 1) := by decide +kernel
theorem dX7_coolAfter_8 : decode cX7_coolAfter 8 = .ok (.ifCond .lt 10, 3) := by decide +kernel
theorem dX7_coolAfter_11 : decode cX7_coolAfter 11 = .ok (.iload_n 2, 1) := by decide +kernel
theorem dX7_coolAfter_12 : decode cX7_coolAfter 12 = .ok (.sipush 300, 3) := by decide +kernel
theorem dX7_coolAfter_15 : decode cX7_coolAfter 15 = .ok (.if_icmp .le 6, 3) := by decide +kernel
theorem dX7_coolAfter_18 : decode cX7_coolAfter 18 = .ok (.ldc 71, 2) := by decide +kernel
theorem dX7_coolAfter_20 : decode cX7_coolAfter 20 = .ok (.ireturn, 1) := by decide +kernel
theorem dX7_coolAfter_21 : decode cX7_coolAfter 21 = .ok (.aload_n 0, 1) := by decide +kernel
theorem dX7_coolAfter_22 : decode cX7_coolAfter 22 = .ok (.getfield 26, 3) := by decide +kernel
theorem dX7_coolAfter_25 : decode cX7_coolAfter 25 = .ok (.aload_n 0, 1) := by decide +kernel
theorem dX7_coolAfter_26 : decode cX7_coolAfter 26 = .ok (.getfield 26, 3) := by decide +kernel
theorem dX7_coolAfter_29 : decode cX7_coolAfter 29 = .ok (.iload_n 1, 1) := by decide +kernel
theorem dX7_coolAfter_30 : decode cX7_coolAfter 30 = .ok (.invokevirtual 72, 3) := by decide +kernel
theorem dX7_coolAfter_33 : decode cX7_coolAfter 33 = .ok (.iload_n 2, 1) := by decide +kernel
theorem dX7_coolAfter_34 : decode cX7_coolAfter 34 = .ok (.invokevirtual 126, 3) := by decide +kernel
theorem dX7_coolAfter_37 : decode cX7_coolAfter 37 = .ok (.ireturn, 1) := by decide +kernel
set_option maxRecDepth 20000 in
theorem ggX7_count_X1_tell : GoodIn wsX7_count wsX1_tell := goodIn_r _ [8, 9, 10, 11, 12, 13, 14, 15, 16, 17, 18, 19, 20, 21, 22, 23, 24, 25, 26, 27, 7, 28, 29, 30, 50, 51, 52, 53, 54, 55, 56, 57, 58, 59, 60, 61, 62, 63, 64, 65, 66, 67, 68, 69, 70] (by decide +kernel) (by decide +kernel)
set_option maxRecDepth 20000 in
theorem gX7_count_X1_tell : GoodIn wsX7_count (wsV RX7 136 RX1 yX1_tell wsX1_tell) := goodIn_app (goodIn_of _ (by decide +kernel)) ggX7_count_X1_tell
theorem dX7_count_0 : decode cX7_count 0 = .ok (.iload_n 1, 1) := by decide +kernel
theorem dX7_count_1 : decode cX7_count 1 = .ok (.lookupswitch 43 #[(10, 27), (11, 35)], 27) := by decide +kernel
theorem dX7_count_28 : decode cX7_count 28 = .ok (.aload_n 0, 1) := by decide +kernel
theorem dX7_count_29 : decode cX7_count 29 = .ok (.getfield 10, 3) := by decide +kernel
theorem dX7_count_32 : decode cX7_count 32 = .ok (.getfield 129, 3) := by decide +kernel
theorem dX7_count_35 : decode cX7_count 35 = .ok (.ireturn, 1) := by decide +kernel
theorem dX7_count_36 : decode cX7_count 36 = .ok (.aload_n 0, 1) := by decide +kernel
theorem dX7_count_37 : decode cX7_count 37 = .ok (.getfield 19, 3) := by decide +kernel
theorem dX7_count_40 : decode cX7_count 40 = .ok (.getfield 133, 3) := by decide +kernel
theorem dX7_count_43 : decode cX7_count 43 = .ok (.ireturn, 1) := by decide +kernel
theorem dX7_count_44 : decode cX7_count 44 = .ok (.aload_n 0, 1) := by decide +kernel
theorem dX7_count_45 : decode cX7_count 45 = .ok (.getfield 26, 3) := by decide +kernel
theorem dX7_count_48 : decode cX7_count 48 = .ok (.iload_n 1, 1) := by decide +kernel
theorem dX7_count_49 : decode cX7_count 49 = .ok (.invokevirtual 136, 3) := by decide +kernel
theorem dX7_count_52 : decode cX7_count 52 = .ok (.ireturn, 1) := by decide +kernel
set_option maxRecDepth 20000 in
theorem ggX7_undo_X2_takeLatest : GoodIn wsX7_undo wsX2_takeLatest := goodIn_r _ [8, 9, 10, 11, 12, 13, 14, 15, 16, 17, 22, 23, 24, 25, 26] (by decide +kernel) (by decide +kernel)
set_option maxRecDepth 20000 in
theorem gX7_undo_X2_takeLatest : GoodIn wsX7_undo (wsV RX7 138 RX2 yX2_takeLatest wsX2_takeLatest) := goodIn_app (goodIn_of _ (by decide +kernel)) ggX7_undo_X2_takeLatest
theorem dX7_undo_0 : decode cX7_undo 0 = .ok (.aload_n 0, 1) := by decide +kernel
theorem dX7_undo_1 : decode cX7_undo 1 = .ok (.getfield 10, 3) := by decide +kernel
theorem dX7_undo_4 : decode cX7_undo 4 = .ok (.getfield 129, 3) := by decide +kernel
theorem dX7_undo_7 : decode cX7_undo 7 = .ok (.iconst 1, 1) := by decide +kernel
theorem dX7_undo_8 : decode cX7_undo 8 = .ok (.if_icmp .ge 6, 3) := by decide +kernel
theorem dX7_undo_11 : decode cX7_undo 11 = .ok (.ldc 137, 2) := by decide +kernel
theorem dX7_undo_13 : decode cX7_undo 13 = .ok (.ireturn, 1) := by decide +kernel
theorem dX7_undo_14 : decode cX7_undo 14 = .ok (.aload_n 0, 1) := by decide +kernel
theorem dX7_undo_15 : decode cX7_undo 15 = .ok (.aload_n 0, 1) := by decide +kernel
theorem dX7_undo_16 : decode cX7_undo 16 = .ok (.getfield 10, 3) := by decide +kernel
theorem dX7_undo_19 : decode cX7_undo 19 = .ok (.aload_n 0, 1) := by decide +kernel
theorem dX7_undo_20 : decode cX7_undo 20 = .ok (.getfield 26, 3) := by decide +kernel
theorem dX7_undo_23 : decode cX7_undo 23 = .ok (.invokevirtual 138, 3) := by decide +kernel
theorem dX7_undo_26 : decode cX7_undo 26 = .ok (.putfield 26, 3) := by decide +kernel
theorem dX7_undo_29 : decode cX7_undo 29 = .ok (.aload_n 0, 1) := by decide +kernel
theorem dX7_undo_30 : decode cX7_undo 30 = .ok (.getfield 10, 3) := by decide +kernel
theorem dX7_undo_33 : decode cX7_undo 33 = .ok (.getfield 129, 3) := by decide +kernel
theorem dX7_undo_36 : decode cX7_undo 36 = .ok (.ireturn, 1) := by decide +kernel
set_option maxRecDepth 20000 in
theorem ggX7_type_X4_append : GoodIn wsX7_type wsX4_append := goodIn_r _ [7, 8, 9, 10, 15, 16, 17, 18, 19, 20, 21, 22, 23, 24] (by decide +kernel) (by decide +kernel)
set_option maxRecDepth 20000 in
theorem gX7_type_X4_append : GoodIn wsX7_type (wsV RX7 142 RX4 yX4_append wsX4_append) := goodIn_app (goodIn_of _ (by decide +kernel)) ggX7_type_X4_append
theorem dX7_type_0 : decode cX7_type 0 = .ok (.iload_n 1, 1) := by decide +kernel
theorem dX7_type_1 : decode cX7_type 1 = .ok (.bipush 32, 2) := by decide +kernel
theorem dX7_type_3 : decode cX7_type 3 = .ok (.if_icmp .lt 9, 3) := by decide +kernel
theorem dX7_type_6 : decode cX7_type 6 = .ok (.iload_n 1, 1) := by decide +kernel
theorem dX7_type_7 : decode cX7_type 7 = .ok (.bipush 126, 2) := by decide +kernel
theorem dX7_type_9 : decode cX7_type 9 = .ok (.if_icmp .le 6, 3) := by decide +kernel
theorem dX7_type_12 : decode cX7_type 12 = .ok (.ldc 71, 2) := by decide +kernel
theorem dX7_type_14 : decode cX7_type 14 = .ok (.ireturn, 1) := by decide +kernel
theorem dX7_type_15 : decode cX7_type 15 = .ok (.aload_n 0, 1) := by decide +kernel
theorem dX7_type_16 : decode cX7_type 16 = .ok (.getfield 19, 3) := by decide +kernel
theorem dX7_type_19 : decode cX7_type 19 = .ok (.iload_n 1, 1) := by decide +kernel
theorem dX7_type_20 : decode cX7_type 20 = .ok (.i2c, 1) := by decide +kernel
theorem dX7_type_21 : decode cX7_type 21 = .ok (.invokevirtual 142, 3) := by decide +kernel
theorem dX7_type_24 : decode cX7_type 24 = .ok (.ireturn, 1) := by decide +kernel
theorem dX7_clearText_0 : decode cX7_clearText 0 = .ok (.aload_n 0, 1) := by decide +kernel
theorem dX7_clearText_1 : decode cX7_clearText 1 = .ok (.getfield 19, 3) := by decide +kernel
theorem dX7_clearText_4 : decode cX7_clearText 4 = .ok (.getfield 133, 3) := by decide +kernel
theorem dX7_clearText_7 : decode cX7_clearText 7 = .ok (.istore_n 1, 1) := by decide +kernel
theorem dX7_clearText_8 : decode cX7_clearText 8 = .ok (.aload_n 0, 1) := by decide +kernel
theorem dX7_clearText_9 : decode cX7_clearText 9 = .ok (.getfield 19, 3) := by decide +kernel
theorem dX7_clearText_12 : decode cX7_clearText 12 = .ok (.iconst 0, 1) := by decide +kernel
theorem dX7_clearText_13 : decode cX7_clearText 13 = .ok (.putfield 133, 3) := by decide +kernel
theorem dX7_clearText_16 : decode cX7_clearText 16 = .ok (.iload_n 1, 1) := by decide +kernel
theorem dX7_clearText_17 : decode cX7_clearText 17 = .ok (.ireturn, 1) := by decide +kernel
set_option maxRecDepth 20000 in
theorem ggX7_fault_X7_spareLikeNow : GoodIn wsX7_fault wsX7_spareLikeNow := goodIn_r _ [7, 8, 9, 10, 11, 12, 13, 14, 15, 16, 17, 18, 19, 20, 21, 22, 23, 24, 25, 26, 27, 28, 29, 30, 31, 32, 33, 34, 35, 36, 37, 38, 39, 40, 41, 42, 43, 44, 45, 46, 47, 48, 49, 50, 51, 52, 53, 54, 55, 56, 57, 58, 59, 60, 61, 62, 63, 64, 65, 66, 67, 68, 69, 70, 282, 283, 284, 285, 286, 287, 288, 289, 290, 291, 292, 293, 294, 295, 296, 297, 298, 299, 300, 301, 302, 303, 304, 305, 306, 307, 308, 309, 310] (by decide +kernel) (by decide +kernel)
set_option maxRecDepth 20000 in
theorem gX7_fault_X7_spareLikeNow : GoodIn wsX7_fault (wsV RX7 33 RX7 yX7_spareLikeNow wsX7_spareLikeNow) := goodIn_app (goodIn_of _ (by decide +kernel)) ggX7_fault_X7_spareLikeNow
set_option maxRecDepth 20000 in
theorem ggX7_fault_X4_doAllOn : GoodIn wsX7_fault wsX4_doAllOn := goodIn_r _ [75, 76, 77, 78, 79, 80, 81, 82, 74, 83, 84, 85, 86, 87, 88, 89, 90, 91, 92, 93, 94, 95, 96, 97, 98, 99, 100, 47, 101, 102, 103, 104, 105, 106, 107, 108, 109, 110, 111, 112, 113, 114, 115, 116, 117, 118, 119, 120, 121, 122, 123, 124, 125, 126, 13, 127, 128, 15, 129, 27, 130, 6, 131, 132, 133, 134, 35, 135, 37, 136, 137, 138, 139, 140, 141, 142, 41, 143, 43, 51, 144, 145, 146, 147, 148, 149, 150, 151, 44, 49, 152, 153, 154, 155, 156, 157, 158, 159, 160, 161, 162, 163, 164, 18, 21, 165, 19, 28, 166, 167, 168, 169, 16, 17, 170, 171, 172, 55, 173, 57, 174, 175, 176, 177, 58, 178, 179, 180, 181, 182, 183, 184, 185, 186, 187, 188, 45, 46, 48, 189, 190, 191, 192, 193, 50, 23, 24, 25, 194, 195, 196, 197, 198, 59, 199, 200, 201, 202, 203, 26, 204, 205, 206, 207, 208, 209, 210, 211, 212, 213, 214, 215, 216, 217, 218, 219, 220, 221, 20, 29, 222, 223, 224, 225, 226, 227, 228, 229, 230, 231, 232, 233, 234, 235, 236, 237, 238, 239, 240, 241, 242, 243, 244, 245, 246, 247, 248, 249, 250, 251, 65, 252, 67, 68, 70, 69, 253, 254, 255, 256, 257, 258, 259, 260, 261, 262, 263, 264, 31, 265, 266, 267, 268, 60, 269, 270, 271, 272, 30, 311, 312, 313, 314, 315, 316, 317, 318, 319, 320, 286, 287, 288, 289, 290, 291, 292, 293, 294, 295, 296, 297, 298, 299, 300, 301, 302, 303, 304, 305, 306, 307, 308, 309, 310] (by decide +kernel) (by decide +kernel)
set_option maxRecDepth 20000 in
theorem gX7_fault_X4_doAllOn : GoodIn wsX7_fault (wsV RX7 146 RX4 yX4_doAllOn wsX4_doAllOn) := goodIn_app (goodIn_of _ (by decide +kernel)) ggX7_fault_X4_doAllOn
set_option maxRecDepth 20000 in
theorem ggX7_fault_X4_tellFault : GoodIn wsX7_fault wsX4_tellFault := goodIn_r _ [276, 277, 118, 76, 119, 278, 279, 280, 74, 281, 311, 312, 313, 314, 315, 316, 317, 318, 319, 320] (by decide +kernel) (by decide +kernel)
set_option maxRecDepth 20000 in
theorem gX7_fault_X4_tellFault : GoodIn wsX7_fault (wsV RX7 150 RX4 yX4_tellFault wsX4_tellFault) := goodIn_app (goodIn_of _ (by decide +kernel)) ggX7_fault_X4_tellFault
theorem dX7_fault_0 : decode cX7_fault 0 = .ok (.iload_n 1, 1) := by decide +kernel
theorem dX7_fault_1 : decode cX7_fault 1 = .ok (.ifCond .lt 8, 3) := by decide +kernel
theorem dX7_fault_4 : decode cX7_fault 4 = .ok (.iload_n 1, 1) := by decide +kernel
theorem dX7_fault_5 : decode cX7_fault 5 = .ok (.iconst 2, 1) := by decide +kernel
theorem dX7_fault_6 : decode cX7_fault 6 = .ok (.if_icmp .le 6, 3) := by decide +kernel
theorem dX7_fault_9 : decode cX7_fault 9 = .ok (.ldc 71, 2) := by decide +kernel
theorem dX7_fault_11 : decode cX7_fault 11 = .ok (.ireturn, 1) := by decide +kernel
theorem dX7_fault_12 : decode cX7_fault 12 = .ok (.aload_n 0, 1) := by decide +kernel
theorem dX7_fault_13 : decode cX7_fault 13 = .ok (.getfield 19, 3) := by decide +kernel
theorem dX7_fault_16 : decode cX7_fault 16 = .ok (.aload_n 0, 1) := by decide +kernel
theorem dX7_fault_17 : decode cX7_fault 17 = .ok (.invokevirtual 33, 3) := by decide +kernel
theorem dX7_fault_20 : decode cX7_fault 20 = .ok (.invokevirtual 146, 3) := by decide +kernel
theorem dX7_fault_23 : decode cX7_fault 23 = .ok (.aload_n 0, 1) := by decide +kernel
theorem dX7_fault_24 : decode cX7_fault 24 = .ok (.getfield 19, 3) := by decide +kernel
theorem dX7_fault_27 : decode cX7_fault 27 = .ok (.iload_n 1, 1) := by decide +kernel
theorem dX7_fault_28 : decode cX7_fault 28 = .ok (.invokevirtual 150, 3) := by decide +kernel
theorem dX7_fault_31 : decode cX7_fault 31 = .ok (.ireturn, 1) := by decide +kernel
set_option maxRecDepth 20000 in
theorem ggX7_play_X7_spareLikeNow : GoodIn wsX7_play wsX7_spareLikeNow := goodIn_r _ [7, 8, 9, 10, 11, 12, 13, 14, 15, 16, 17, 18, 19, 20, 21, 22, 23, 24, 25, 26, 27, 28, 29, 30, 31, 32, 33, 34, 35, 36, 37, 38, 39, 40, 41, 42, 43, 44, 45, 46, 47, 48, 49, 50, 51, 52, 53, 54, 55, 56, 57, 58, 59, 60, 61, 62, 63, 64, 65, 66, 67, 68, 69, 70, 293, 294, 295, 296, 307, 308, 309, 310, 311, 312, 313, 314, 315, 316, 317, 318, 319, 320, 321, 322, 323, 324, 325, 326, 327, 328, 329, 330, 331] (by decide +kernel) (by decide +kernel)
set_option maxRecDepth 20000 in
theorem gX7_play_X7_spareLikeNow : GoodIn wsX7_play (wsV RX7 33 RX7 yX7_spareLikeNow wsX7_spareLikeNow) := goodIn_app (goodIn_of _ (by decide +kernel)) ggX7_play_X7_spareLikeNow
set_option maxRecDepth 20000 in
theorem ggX7_play_X4_doAllOn : GoodIn wsX7_play wsX4_doAllOn := goodIn_r _ [75, 76, 77, 78, 79, 80, 81, 82, 74, 83, 84, 85, 86, 87, 88, 89, 90, 91, 92, 93, 94, 95, 96, 97, 98, 99, 100, 47, 101, 102, 103, 104, 105, 106, 107, 108, 109, 110, 111, 112, 113, 114, 115, 116, 117, 118, 119, 120, 121, 122, 123, 124, 125, 126, 13, 127, 128, 15, 129, 27, 130, 6, 131, 132, 133, 134, 35, 135, 37, 136, 137, 138, 139, 140, 141, 142, 41, 143, 43, 51, 144, 145, 146, 147, 148, 149, 150, 151, 44, 49, 152, 153, 154, 155, 156, 157, 158, 159, 160, 161, 162, 163, 164, 18, 21, 165, 19, 28, 166, 167, 168, 169, 16, 17, 170, 171, 172, 55, 173, 57, 174, 175, 176, 177, 58, 178, 179, 180, 181, 182, 183, 184, 185, 186, 187, 188, 45, 46, 48, 189, 190, 191, 192, 193, 50, 23, 24, 25, 194, 195, 196, 197, 198, 59, 199, 200, 201, 202, 203, 26, 204, 205, 206, 207, 208, 209, 210, 211, 212, 213, 214, 215, 216, 217, 218, 219, 220, 221, 20, 29, 222, 223, 224, 225, 226, 227, 228, 229, 230, 231, 232, 233, 234, 235, 236, 237, 238, 239, 240, 241, 242, 243, 244, 245, 246, 247, 248, 249, 250, 251, 65, 252, 67, 68, 70, 69, 253, 254, 255, 256, 257, 258, 259, 260, 261, 262, 263, 264, 31, 265, 266, 267, 268, 60, 269, 270, 271, 272, 30, 297, 298, 299, 300, 301, 302, 303, 304, 305, 306, 307, 308, 309, 310, 311, 312, 313, 314, 315, 316, 317, 318, 319, 320, 321, 322, 323, 324, 325, 326, 327, 328, 329, 330, 331] (by decide +kernel) (by decide +kernel)
set_option maxRecDepth 20000 in
theorem gX7_play_X4_doAllOn : GoodIn wsX7_play (wsV RX7 146 RX4 yX4_doAllOn wsX4_doAllOn) := goodIn_app (goodIn_of _ (by decide +kernel)) ggX7_play_X4_doAllOn
set_option maxRecDepth 20000 in
theorem ggX7_play_X4_hasFault : GoodIn wsX7_play wsX4_hasFault := goodIn_r _ [276, 76, 297, 298, 299, 300, 301, 302, 303, 304, 305, 306] (by decide +kernel) (by decide +kernel)
set_option maxRecDepth 20000 in
theorem gX7_play_X4_hasFault : GoodIn wsX7_play (wsV RX7 153 RX4 yX4_hasFault wsX4_hasFault) := goodIn_app (goodIn_of _ (by decide +kernel)) ggX7_play_X4_hasFault
set_option maxRecDepth 20000 in
theorem ggX7_play_X7_keepIfDone : GoodIn wsX7_play wsX7_keepIfDone := goodIn_r _ [280, 9, 8, 281, 282, 283, 284, 285, 286, 287, 288, 289, 290, 291, 292, 46, 47, 48, 293, 294, 295, 296, 332, 333, 334, 335, 336] (by decide +kernel) (by decide +kernel)
set_option maxRecDepth 20000 in
theorem gX7_play_X7_keepIfDone : GoodIn wsX7_play (wsV RX7 41 RX7 yX7_keepIfDone wsX7_keepIfDone) := goodIn_app (goodIn_of _ (by decide +kernel)) ggX7_play_X7_keepIfDone
theorem dX7_play_0 : decode cX7_play 0 = .ok (.aload_n 0, 1) := by decide +kernel
theorem dX7_play_1 : decode cX7_play 1 = .ok (.getfield 19, 3) := by decide +kernel
theorem dX7_play_4 : decode cX7_play 4 = .ok (.aload_n 0, 1) := by decide +kernel
theorem dX7_play_5 : decode cX7_play 5 = .ok (.invokevirtual 33, 3) := by decide +kernel
theorem dX7_play_8 : decode cX7_play 8 = .ok (.invokevirtual 146, 3) := by decide +kernel
theorem dX7_play_11 : decode cX7_play 11 = .ok (.aload_n 0, 1) := by decide +kernel
theorem dX7_play_12 : decode cX7_play 12 = .ok (.aload_n 0, 1) := by decide +kernel
theorem dX7_play_13 : decode cX7_play 13 = .ok (.getfield 19, 3) := by decide +kernel
theorem dX7_play_16 : decode cX7_play 16 = .ok (.invokevirtual 153, 3) := by decide +kernel
theorem dX7_play_19 : decode cX7_play 19 = .ok (.ifCond .eq 8, 3) := by decide +kernel
theorem dX7_play_22 : decode cX7_play 22 = .ok (.ldc 137, 2) := by decide +kernel
theorem dX7_play_24 : decode cX7_play 24 = .ok (.goto 10, 3) := by decide +kernel
theorem dX7_play_27 : decode cX7_play 27 = .ok (.aload_n 0, 1) := by decide +kernel
theorem dX7_play_28 : decode cX7_play 28 = .ok (.getfield 19, 3) := by decide +kernel
theorem dX7_play_31 : decode cX7_play 31 = .ok (.getfield 157, 3) := by decide +kernel
theorem dX7_play_34 : decode cX7_play 34 = .ok (.invokevirtual 41, 3) := by decide +kernel
theorem dX7_play_37 : decode cX7_play 37 = .ok (.ireturn, 1) := by decide +kernel
set_option maxRecDepth 20000 in
theorem ggX7_spareLikeNow_X1_copyFrom : GoodIn wsX7_spareLikeNow wsX1_copyFrom := goodIn_r _ [7, 8, 9, 10, 11, 12, 13, 14, 15, 16, 17, 18, 19, 20, 21, 22, 23, 24, 25, 26, 27, 28, 29, 30, 31, 32, 33, 34, 35, 36, 37, 38, 39, 40, 41, 42, 43, 44, 45, 46, 47, 48, 49, 50, 51, 52, 53, 54, 55, 56, 57, 58, 59, 60, 61, 62, 63, 68, 69, 70, 71, 72, 73, 74, 75, 76, 77, 78, 79, 80, 81, 82, 83, 84, 85, 86, 87, 88, 89, 90, 91, 92] (by decide +kernel) (by decide +kernel)
set_option maxRecDepth 20000 in
theorem gX7_spareLikeNow_X1_copyFrom : GoodIn wsX7_spareLikeNow (wsV RX7 160 RX1 yX1_copyFrom wsX1_copyFrom) := goodIn_app (goodIn_of _ (by decide +kernel)) ggX7_spareLikeNow_X1_copyFrom
theorem dX7_spareLikeNow_0 : decode cX7_spareLikeNow 0 = .ok (.aload_n 0, 1) := by decide +kernel
theorem dX7_spareLikeNow_1 : decode cX7_spareLikeNow 1 = .ok (.getfield 30, 3) := by decide +kernel
theorem dX7_spareLikeNow_4 : decode cX7_spareLikeNow 4 = .ok (.aload_n 0, 1) := by decide +kernel
theorem dX7_spareLikeNow_5 : decode cX7_spareLikeNow 5 = .ok (.getfield 26, 3) := by decide +kernel
theorem dX7_spareLikeNow_8 : decode cX7_spareLikeNow 8 = .ok (.invokevirtual 160, 3) := by decide +kernel
theorem dX7_spareLikeNow_11 : decode cX7_spareLikeNow 11 = .ok (.aload_n 0, 1) := by decide +kernel
theorem dX7_spareLikeNow_12 : decode cX7_spareLikeNow 12 = .ok (.getfield 30, 3) := by decide +kernel
theorem dX7_spareLikeNow_15 : decode cX7_spareLikeNow 15 = .ok (.areturn, 1) := by decide +kernel
set_option maxRecDepth 20000 in
theorem ggX7_keepIfDone_X2_add : GoodIn wsX7_keepIfDone wsX2_add := goodIn_r _ [8, 9, 10, 11, 12, 13, 14, 15, 16, 17, 22, 23, 24, 25, 26] (by decide +kernel) (by decide +kernel)
set_option maxRecDepth 20000 in
theorem gX7_keepIfDone_X2_add : GoodIn wsX7_keepIfDone (wsV RX7 163 RX2 yX2_add wsX2_add) := goodIn_app (goodIn_of _ (by decide +kernel)) ggX7_keepIfDone_X2_add
theorem dX7_keepIfDone_0 : decode cX7_keepIfDone 0 = .ok (.iload_n 1, 1) := by decide +kernel
theorem dX7_keepIfDone_1 : decode cX7_keepIfDone 1 = .ok (.ifCond .ge 5, 3) := by decide +kernel
theorem dX7_keepIfDone_4 : decode cX7_keepIfDone 4 = .ok (.iload_n 1, 1) := by decide +kernel
theorem dX7_keepIfDone_5 : decode cX7_keepIfDone 5 = .ok (.ireturn, 1) := by decide +kernel
theorem dX7_keepIfDone_6 : decode cX7_keepIfDone 6 = .ok (.aload_n 0, 1) := by decide +kernel
theorem dX7_keepIfDone_7 : decode cX7_keepIfDone 7 = .ok (.getfield 26, 3) := by decide +kernel
theorem dX7_keepIfDone_10 : decode cX7_keepIfDone 10 = .ok (.astore_n 2, 1) := by decide +kernel
theorem dX7_keepIfDone_11 : decode cX7_keepIfDone 11 = .ok (.aload_n 0, 1) := by decide +kernel
theorem dX7_keepIfDone_12 : decode cX7_keepIfDone 12 = .ok (.aload_n 0, 1) := by decide +kernel
theorem dX7_keepIfDone_13 : decode cX7_keepIfDone 13 = .ok (.getfield 30, 3) := by decide +kernel
theorem dX7_keepIfDone_16 : decode cX7_keepIfDone 16 = .ok (.putfield 26, 3) := by decide +kernel
theorem dX7_keepIfDone_19 : decode cX7_keepIfDone 19 = .ok (.aload_n 0, 1) := by decide +kernel
theorem dX7_keepIfDone_20 : decode cX7_keepIfDone 20 = .ok (.aload_n 0, 1) := by decide +kernel
theorem dX7_keepIfDone_21 : decode cX7_keepIfDone 21 = .ok (.getfield 10, 3) := by decide +kernel
theorem dX7_keepIfDone_24 : decode cX7_keepIfDone 24 = .ok (.aload_n 2, 1) := by decide +kernel
theorem dX7_keepIfDone_25 : decode cX7_keepIfDone 25 = .ok (.invokevirtual 163, 3) := by decide +kernel
theorem dX7_keepIfDone_28 : decode cX7_keepIfDone 28 = .ok (.putfield 30, 3) := by decide +kernel
theorem dX7_keepIfDone_31 : decode cX7_keepIfDone 31 = .ok (.iload_n 1, 1) := by decide +kernel
theorem dX7_keepIfDone_32 : decode cX7_keepIfDone 32 = .ok (.ireturn, 1) := by decide +kernel
theorem dX7_isZeroOrOne_0 : decode cX7_isZeroOrOne 0 = .ok (.iload_n 0, 1) := by decide +kernel
theorem dX7_isZeroOrOne_1 : decode cX7_isZeroOrOne 1 = .ok (.ifCond .eq 8, 3) := by decide +kernel
theorem dX7_isZeroOrOne_4 : decode cX7_isZeroOrOne 4 = .ok (.iload_n 0, 1) := by decide +kernel
theorem dX7_isZeroOrOne_5 : decode cX7_isZeroOrOne 5 = .ok (.iconst 1, 1) := by decide +kernel
theorem dX7_isZeroOrOne_6 : decode cX7_isZeroOrOne 6 = .ok (.if_icmp .ne 7, 3) := by decide +kernel
theorem dX7_isZeroOrOne_9 : decode cX7_isZeroOrOne 9 = .ok (.iconst 1, 1) := by decide +kernel
theorem dX7_isZeroOrOne_10 : decode cX7_isZeroOrOne 10 = .ok (.goto 4, 3) := by decide +kernel
theorem dX7_isZeroOrOne_13 : decode cX7_isZeroOrOne 13 = .ok (.iconst 0, 1) := by decide +kernel
theorem dX7_isZeroOrOne_14 : decode cX7_isZeroOrOne 14 = .ok (.ireturn, 1) := by decide +kernel
theorem dX7_fallOf_0 : decode cX7_fallOf 0 = .ok (.iload_n 0, 1) := by decide +kernel
theorem dX7_fallOf_1 : decode cX7_fallOf 1 = .ok (.iconst 1, 1) := by decide +kernel
theorem dX7_fallOf_2 : decode cX7_fallOf 2 = .ok (.if_icmp .ge 5, 3) := by decide +kernel
theorem dX7_fallOf_5 : decode cX7_fallOf 5 = .ok (.iconst 0, 1) := by decide +kernel
theorem dX7_fallOf_6 : decode cX7_fallOf 6 = .ok (.ireturn, 1) := by decide +kernel
theorem dX7_fallOf_7 : decode cX7_fallOf 7 = .ok (.iload_n 0, 1) := by decide +kernel
theorem dX7_fallOf_8 : decode cX7_fallOf 8 = .ok (.bipush 16, 2) := by decide +kernel
theorem dX7_fallOf_10 : decode cX7_fallOf 10 = .ok (.if_icmp .ge 7, 3) := by decide +kernel
theorem dX7_fallOf_13 : decode cX7_fallOf 13 = .ok (.iconst 1, 1) := by decide +kernel
theorem dX7_fallOf_14 : decode cX7_fallOf 14 = .ok (.goto 7, 3) := by decide +kernel
theorem dX7_fallOf_17 : decode cX7_fallOf 17 = .ok (.iload_n 0, 1) := by decide +kernel
theorem dX7_fallOf_18 : decode cX7_fallOf 18 = .ok (.bipush 16, 2) := by decide +kernel
theorem dX7_fallOf_20 : decode cX7_fallOf 20 = .ok (.idiv, 1) := by decide +kernel
theorem dX7_fallOf_21 : decode cX7_fallOf 21 = .ok (.ireturn, 1) := by decide +kernel
theorem dX7_flowOf_0 : decode cX7_flowOf 0 = .ok (.iload_n 1, 1) := by decide +kernel
theorem dX7_flowOf_1 : decode cX7_flowOf 1 = .ok (.bipush 10, 2) := by decide +kernel
theorem dX7_flowOf_3 : decode cX7_flowOf 3 = .ok (.if_icmp .ge 7, 3) := by decide +kernel
theorem dX7_flowOf_6 : decode cX7_flowOf 6 = .ok (.iconst 0, 1) := by decide +kernel
theorem dX7_flowOf_7 : decode cX7_flowOf 7 = .ok (.goto 10, 3) := by decide +kernel
theorem dX7_flowOf_10 : decode cX7_flowOf 10 = .ok (.iload_n 0, 1) := by decide +kernel
theorem dX7_flowOf_11 : decode cX7_flowOf 11 = .ok (.sipush 1000, 3) := by decide +kernel
theorem dX7_flowOf_14 : decode cX7_flowOf 14 = .ok (.imul, 1) := by decide +kernel
theorem dX7_flowOf_15 : decode cX7_flowOf 15 = .ok (.iload_n 1, 1) := by decide +kernel
theorem dX7_flowOf_16 : decode cX7_flowOf 16 = .ok (.idiv, 1) := by decide +kernel
theorem dX7_flowOf_17 : decode cX7_flowOf 17 = .ok (.ireturn, 1) := by decide +kernel
theorem dX7_markOf_0 : decode cX7_markOf 0 = .ok (.iload_n 2, 1) := by decide +kernel
theorem dX7_markOf_1 : decode cX7_markOf 1 = .ok (.iconst 2, 1) := by decide +kernel
theorem dX7_markOf_2 : decode cX7_markOf 2 = .ok (.ishl, 1) := by decide +kernel
theorem dX7_markOf_3 : decode cX7_markOf 3 = .ok (.iload_n 1, 1) := by decide +kernel
theorem dX7_markOf_4 : decode cX7_markOf 4 = .ok (.ifCond .ne 7, 3) := by decide +kernel
theorem dX7_markOf_7 : decode cX7_markOf 7 = .ok (.iconst 0, 1) := by decide +kernel
theorem dX7_markOf_8 : decode cX7_markOf 8 = .ok (.goto 4, 3) := by decide +kernel
theorem dX7_markOf_11 : decode cX7_markOf 11 = .ok (.iconst 2, 1) := by decide +kernel
theorem dX7_markOf_12 : decode cX7_markOf 12 = .ok (.ior, 1) := by decide +kernel
theorem dX7_markOf_13 : decode cX7_markOf 13 = .ok (.iload_n 0, 1) := by decide +kernel
theorem dX7_markOf_14 : decode cX7_markOf 14 = .ok (.ifCond .ne 7, 3) := by decide +kernel
theorem dX7_markOf_17 : decode cX7_markOf 17 = .ok (.iconst 0, 1) := by decide +kernel
theorem dX7_markOf_18 : decode cX7_markOf 18 = .ok (.goto 4, 3) := by decide +kernel
theorem dX7_markOf_21 : decode cX7_markOf 21 = .ok (.iconst 1, 1) := by decide +kernel
theorem dX7_markOf_22 : decode cX7_markOf 22 = .ok (.ior, 1) := by decide +kernel
theorem dX7_markOf_23 : decode cX7_markOf 23 = .ok (.ireturn, 1) := by decide +kernel
theorem dX7_kindOfMark_0 : decode cX7_kindOfMark 0 = .ok (.iload_n 0, 1) := by decide +kernel
theorem dX7_kindOfMark_1 : decode cX7_kindOfMark 1 = .ok (.iconst 1, 1) := by decide +kernel
theorem dX7_kindOfMark_2 : decode cX7_kindOfMark 2 = .ok (.iand, 1) := by decide +kernel
theorem dX7_kindOfMark_3 : decode cX7_kindOfMark 3 = .ok (.ireturn, 1) := by decide +kernel
theorem dX7_burrOfMark_0 : decode cX7_burrOfMark 0 = .ok (.iload_n 0, 1) := by decide +kernel
theorem dX7_burrOfMark_1 : decode cX7_burrOfMark 1 = .ok (.iconst 2, 1) := by decide +kernel
theorem dX7_burrOfMark_2 : decode cX7_burrOfMark 2 = .ok (.iand, 1) := by decide +kernel
theorem dX7_burrOfMark_3 : decode cX7_burrOfMark 3 = .ok (.iconst 1, 1) := by decide +kernel
theorem dX7_burrOfMark_4 : decode cX7_burrOfMark 4 = .ok (.ishr, 1) := by decide +kernel
theorem dX7_burrOfMark_5 : decode cX7_burrOfMark 5 = .ok (.ireturn, 1) := by decide +kernel
theorem dX7_gapOfMark_0 : decode cX7_gapOfMark 0 = .ok (.iload_n 0, 1) := by decide +kernel
theorem dX7_gapOfMark_1 : decode cX7_gapOfMark 1 = .ok (.iconst 2, 1) := by decide +kernel
theorem dX7_gapOfMark_2 : decode cX7_gapOfMark 2 = .ok (.ishr, 1) := by decide +kernel
theorem dX7_gapOfMark_3 : decode cX7_gapOfMark 3 = .ok (.ireturn, 1) := by decide +kernel
end
section
theorem dX8_init_0 : decode cX8_init 0 = .ok (.aload_n 0, 1) := by decide +kernel
theorem dX8_init_1 : decode cX8_init 1 = .ok (.invokespecial 1, 3) := by decide +kernel
theorem dX8_init_4 : decode cX8_init 4 = .ok (.aload_n 0, 1) := by decide +kernel
theorem dX8_init_5 : decode cX8_init 5 = .ok (.sipush 631, 3) := by decide +kernel
theorem dX8_init_8 : decode cX8_init 8 = .ok (.newarray .int, 2) := by decide +kernel
theorem dX8_init_10 : decode cX8_init 10 = .ok (.putfield 7, 3) := by decide +kernel
theorem dX8_init_13 : decode cX8_init 13 = .ok (.aload_n 0, 1) := by decide +kernel
theorem dX8_init_14 : decode cX8_init 14 = .ok (.sipush 2524, 3) := by decide +kernel
theorem dX8_init_17 : decode cX8_init 17 = .ok (.newarray .int, 2) := by decide +kernel
theorem dX8_init_19 : decode cX8_init 19 = .ok (.putfield 13, 3) := by decide +kernel
theorem dX8_init_22 : decode cX8_init 22 = .ok (.aload_n 0, 1) := by decide +kernel
theorem dX8_init_23 : decode cX8_init 23 = .ok (.sipush 631, 3) := by decide +kernel
theorem dX8_init_26 : decode cX8_init 26 = .ok (.newarray .int, 2) := by decide +kernel
theorem dX8_init_28 : decode cX8_init 28 = .ok (.putfield 16, 3) := by decide +kernel
theorem dX8_init_31 : decode cX8_init 31 = .ok (.aload_n 0, 1) := by decide +kernel
theorem dX8_init_32 : decode cX8_init 32 = .ok (.sipush 631, 3) := by decide +kernel
theorem dX8_init_35 : decode cX8_init 35 = .ok (.newarray .int, 2) := by decide +kernel
theorem dX8_init_37 : decode cX8_init 37 = .ok (.putfield 19, 3) := by decide +kernel
theorem dX8_init_40 : decode cX8_init 40 = .ok (.aload_n 0, 1) := by decide +kernel
theorem dX8_init_41 : decode cX8_init 41 = .ok (.bipush 60, 2) := by decide +kernel
theorem dX8_init_43 : decode cX8_init 43 = .ok (.newarray .int, 2) := by decide +kernel
theorem dX8_init_45 : decode cX8_init 45 = .ok (.putfield 22, 3) := by decide +kernel
theorem dX8_init_48 : decode cX8_init 48 = .ok (.aload_n 0, 1) := by decide +kernel
theorem dX8_init_49 : decode cX8_init 49 = .ok (.iconst 2, 1) := by decide +kernel
theorem dX8_init_50 : decode cX8_init 50 = .ok (.newarray .int, 2) := by decide +kernel
theorem dX8_init_52 : decode cX8_init 52 = .ok (.putfield 25, 3) := by decide +kernel
theorem dX8_init_55 : decode cX8_init 55 = .ok (.aload_n 0, 1) := by decide +kernel
theorem dX8_init_56 : decode cX8_init 56 = .ok (.getfield 7, 3) := by decide +kernel
theorem dX8_init_59 : decode cX8_init 59 = .ok (.bipush 7, 2) := by decide +kernel
theorem dX8_init_61 : decode cX8_init 61 = .ok (.sipush 280, 3) := by decide +kernel
theorem dX8_init_64 : decode cX8_init 64 = .ok (.iastore, 1) := by decide +kernel
theorem dX8_init_65 : decode cX8_init 65 = .ok (.aload_n 0, 1) := by decide +kernel
theorem dX8_init_66 : decode cX8_init 66 = .ok (.getfield 7, 3) := by decide +kernel
theorem dX8_init_69 : decode cX8_init 69 = .ok (.bipush 8, 2) := by decide +kernel
theorem dX8_init_71 : decode cX8_init 71 = .ok (.bipush 20, 2) := by decide +kernel
theorem dX8_init_73 : decode cX8_init 73 = .ok (.iastore, 1) := by decide +kernel
theorem dX8_init_74 : decode cX8_init 74 = .ok (.aload_n 0, 1) := by decide +kernel
theorem dX8_init_75 : decode cX8_init 75 = .ok (.getfield 7, 3) := by decide +kernel
theorem dX8_init_78 : decode cX8_init 78 = .ok (.bipush 9, 2) := by decide +kernel
theorem dX8_init_80 : decode cX8_init 80 = .ok (.bipush 40, 2) := by decide +kernel
theorem dX8_init_82 : decode cX8_init 82 = .ok (.iastore, 1) := by decide +kernel
theorem dX8_init_83 : decode cX8_init 83 = .ok (.aload_n 0, 1) := by decide +kernel
theorem dX8_init_84 : decode cX8_init 84 = .ok (.getfield 7, 3) := by decide +kernel
theorem dX8_init_87 : decode cX8_init 87 = .ok (.bipush 10, 2) := by decide +kernel
theorem dX8_init_89 : decode cX8_init 89 = .ok (.bipush 90, 2) := by decide +kernel
theorem dX8_init_91 : decode cX8_init 91 = .ok (.iastore, 1) := by decide +kernel
theorem dX8_init_92 : decode cX8_init 92 = .ok (.aload_n 0, 1) := by decide +kernel
theorem dX8_init_93 : decode cX8_init 93 = .ok (.getfield 7, 3) := by decide +kernel
theorem dX8_init_96 : decode cX8_init 96 = .ok (.bipush 11, 2) := by decide +kernel
theorem dX8_init_98 : decode cX8_init 98 = .ok (.bipush 120, 2) := by decide +kernel
theorem dX8_init_100 : decode cX8_init 100 = .ok (.iastore, 1) := by decide +kernel
theorem dX8_init_101 : decode cX8_init 101 = .ok (.aload_n 0, 1) := by decide +kernel
theorem dX8_init_102 : decode cX8_init 102 = .ok (.getfield 7, 3) := by decide +kernel
theorem dX8_init_105 : decode cX8_init 105 = .ok (.bipush 13, 2) := by decide +kernel
theorem dX8_init_107 : decode cX8_init 107 = .ok (.bipush 30, 2) := by decide +kernel
theorem dX8_init_109 : decode cX8_init 109 = .ok (.iastore, 1) := by decide +kernel
theorem dX8_init_110 : decode cX8_init 110 = .ok (.aload_n 0, 1) := by decide +kernel
theorem dX8_init_111 : decode cX8_init 111 = .ok (.getfield 7, 3) := by decide +kernel
theorem dX8_init_114 : decode cX8_init 114 = .ok (.bipush 17, 2) := by decide +kernel
theorem dX8_init_116 : decode cX8_init 116 = .ok (.bipush 30, 2) := by decide +kernel
theorem dX8_init_118 : decode cX8_init 118 = .ok (.iastore, 1) := by decide +kernel
theorem dX8_init_119 : decode cX8_init 119 = .ok (.return_, 1) := by decide +kernel
theorem dX8_in_0 : decode cX8_in 0 = .ok (.iload_n 0, 1) := by decide +kernel
theorem dX8_in_1 : decode cX8_in 1 = .ok (.iload_n 1, 1) := by decide +kernel
theorem dX8_in_2 : decode cX8_in 2 = .ok (.if_icmp .lt 12, 3) := by decide +kernel
theorem dX8_in_5 : decode cX8_in 5 = .ok (.iload_n 0, 1) := by decide +kernel
theorem dX8_in_6 : decode cX8_in 6 = .ok (.iload_n 2, 1) := by decide +kernel
theorem dX8_in_7 : decode cX8_in 7 = .ok (.if_icmp .gt 7, 3) := by decide +kernel
theorem dX8_in_10 : decode cX8_in 10 = .ok (.iconst 1, 1) := by decide +kernel
theorem dX8_in_11 : decode cX8_in 11 = .ok (.goto 4, 3) := by decide +kernel
theorem dX8_in_14 : decode cX8_in 14 = .ok (.iconst 0, 1) := by decide +kernel
theorem dX8_in_15 : decode cX8_in 15 = .ok (.ireturn, 1) := by decide +kernel
set_option maxRecDepth 20000 in
theorem ggX8_isOne_X8_in : GoodIn wsX8_isOne wsX8_in := goodIn_r _ [4] (by decide +kernel) (by decide +kernel)
set_option maxRecDepth 20000 in
theorem gX8_isOne_X8_in : GoodIn wsX8_isOne (va_wsS RX8 28 yX8_in wsX8_in) := goodIn_app (goodIn_of _ (by decide +kernel)) ggX8_isOne_X8_in
theorem dX8_isOne_0 : decode cX8_isOne 0 = .ok (.iload_n 0, 1) := by decide +kernel
theorem dX8_isOne_1 : decode cX8_isOne 1 = .ok (.iconst 0, 1) := by decide +kernel
theorem dX8_isOne_2 : decode cX8_isOne 2 = .ok (.iconst 1, 1) := by decide +kernel
theorem dX8_isOne_3 : decode cX8_isOne 3 = .ok (.invokestatic 28, 3) := by decide +kernel
theorem dX8_isOne_6 : decode cX8_isOne 6 = .ok (.ireturn, 1) := by decide +kernel
theorem dX8_copies_0 : decode cX8_copies 0 = .ok (.iconst 0, 1) := by decide +kernel
theorem dX8_copies_1 : decode cX8_copies 1 = .ok (.istore_n 2, 1) := by decide +kernel
theorem dX8_copies_2 : decode cX8_copies 2 = .ok (.iload_n 2, 1) := by decide +kernel
theorem dX8_copies_3 : decode cX8_copies 3 = .ok (.sipush 631, 3) := by decide +kernel
theorem dX8_copies_6 : decode cX8_copies 6 = .ok (.if_icmp .ge 15, 3) := by decide +kernel
theorem dX8_copies_9 : decode cX8_copies 9 = .ok (.aload_n 1, 1) := by decide +kernel
theorem dX8_copies_10 : decode cX8_copies 10 = .ok (.iload_n 2, 1) := by decide +kernel
theorem dX8_copies_11 : decode cX8_copies 11 = .ok (.aload_n 0, 1) := by decide +kernel
theorem dX8_copies_12 : decode cX8_copies 12 = .ok (.iload_n 2, 1) := by decide +kernel
theorem dX8_copies_13 : decode cX8_copies 13 = .ok (.iaload, 1) := by decide +kernel
theorem dX8_copies_14 : decode cX8_copies 14 = .ok (.iastore, 1) := by decide +kernel
theorem dX8_copies_15 : decode cX8_copies 15 = .ok (.iinc 2 1, 3) := by decide +kernel
theorem dX8_copies_18 : decode cX8_copies 18 = .ok (.goto (-16), 3) := by decide +kernel
theorem dX8_copies_21 : decode cX8_copies 21 = .ok (.return_, 1) := by decide +kernel
theorem dX8_changes_0 : decode cX8_changes 0 = .ok (.aload_n 0, 1) := by decide +kernel
theorem dX8_changes_1 : decode cX8_changes 1 = .ok (.getfield 32, 3) := by decide +kernel
theorem dX8_changes_4 : decode cX8_changes 4 = .ok (.ifCond .eq 4, 3) := by decide +kernel
theorem dX8_changes_7 : decode cX8_changes 7 = .ok (.return_, 1) := by decide +kernel
theorem dX8_changes_8 : decode cX8_changes 8 = .ok (.aload_n 0, 1) := by decide +kernel
theorem dX8_changes_9 : decode cX8_changes 9 = .ok (.getfield 36, 3) := by decide +kernel
theorem dX8_changes_12 : decode cX8_changes 12 = .ok (.iconst 4, 1) := by decide +kernel
theorem dX8_changes_13 : decode cX8_changes 13 = .ok (.if_icmp .ne 44, 3) := by decide +kernel
theorem dX8_changes_16 : decode cX8_changes 16 = .ok (.iconst 0, 1) := by decide +kernel
theorem dX8_changes_17 : decode cX8_changes 17 = .ok (.istore_n 1, 1) := by decide +kernel
theorem dX8_changes_18 : decode cX8_changes 18 = .ok (.iload_n 1, 1) := by decide +kernel
theorem dX8_changes_19 : decode cX8_changes 19 = .ok (.sipush 1893, 3) := by decide +kernel
theorem dX8_changes_22 : decode cX8_changes 22 = .ok (.if_icmp .ge 25, 3) := by decide +kernel
theorem dX8_changes_25 : decode cX8_changes 25 = .ok (.aload_n 0, 1) := by decide +kernel
theorem dX8_changes_26 : decode cX8_changes 26 = .ok (.getfield 13, 3) := by decide +kernel
theorem dX8_changes_29 : decode cX8_changes 29 = .ok (.iload_n 1, 1) := by decide +kernel
theorem dX8_changes_30 : decode cX8_changes 30 = .ok (.aload_n 0, 1) := by decide +kernel
theorem dX8_changes_31 : decode cX8_changes 31 = .ok (.getfield 13, 3) := by decide +kernel
theorem dX8_changes_34 : decode cX8_changes 34 = .ok (.iload_n 1, 1) := by decide +kernel
theorem dX8_changes_35 : decode cX8_changes 35 = .ok (.sipush 631, 3) := by decide +kernel
theorem dX8_changes_38 : decode cX8_changes 38 = .ok (.iadd, 1) := by decide +kernel
theorem dX8_changes_39 : decode cX8_changes 39 = .ok (.iaload, 1) := by decide +kernel
theorem dX8_changes_40 : decode cX8_changes 40 = .ok (.iastore, 1) := by decide +kernel
theorem dX8_changes_41 : decode cX8_changes 41 = .ok (.iinc 1 1, 3) := by decide +kernel
theorem dX8_changes_44 : decode cX8_changes 44 = .ok (.goto (-26), 3) := by decide +kernel
theorem dX8_changes_47 : decode cX8_changes 47 = .ok (.aload_n 0, 1) := by decide +kernel
theorem dX8_changes_48 : decode cX8_changes 48 = .ok (.dup, 1) := by decide +kernel
theorem dX8_changes_49 : decode cX8_changes 49 = .ok (.getfield 36, 3) := by decide +kernel
theorem dX8_changes_52 : decode cX8_changes 52 = .ok (.iconst 1, 1) := by decide +kernel
theorem dX8_changes_53 : decode cX8_changes 53 = .ok (.isub, 1) := by decide +kernel
theorem dX8_changes_54 : decode cX8_changes 54 = .ok (.putfield 36, 3) := by decide +kernel
theorem dX8_changes_57 : decode cX8_changes 57 = .ok (.iconst 0, 1) := by decide +kernel
theorem dX8_changes_58 : decode cX8_changes 58 = .ok (.istore_n 1, 1) := by decide +kernel
theorem dX8_changes_59 : decode cX8_changes 59 = .ok (.iload_n 1, 1) := by decide +kernel
theorem dX8_changes_60 : decode cX8_changes 60 = .ok (.sipush 631, 3) := by decide +kernel
theorem dX8_changes_63 : decode cX8_changes 63 = .ok (.if_icmp .ge 30, 3) := by decide +kernel
theorem dX8_changes_66 : decode cX8_changes 66 = .ok (.aload_n 0, 1) := by decide +kernel
theorem dX8_changes_67 : decode cX8_changes 67 = .ok (.getfield 13, 3) := by decide +kernel
theorem dX8_changes_70 : decode cX8_changes 70 = .ok (.sipush 631, 3) := by decide +kernel
theorem dX8_changes_73 : decode cX8_changes 73 = .ok (.aload_n 0, 1) := by decide +kernel
theorem dX8_changes_74 : decode cX8_changes 74 = .ok (.getfield 36, 3) := by decide +kernel
theorem dX8_changes_77 : decode cX8_changes 77 = .ok (.imul, 1) := by decide +kernel
theorem dX8_changes_78 : decode cX8_changes 78 = .ok (.iload_n 1, 1) := by decide +kernel
theorem dX8_changes_79 : decode cX8_changes 79 = .ok (.iadd, 1) := by decide +kernel
theorem dX8_changes_80 : decode cX8_changes 80 = .ok (.aload_n 0, 1) := by decide +kernel
theorem dX8_changes_81 : decode cX8_changes 81 = .ok (.getfield 7, 3) := by decide +kernel
theorem dX8_changes_84 : decode cX8_changes 84 = .ok (.iload_n 1, 1) := by decide +kernel
theorem dX8_changes_85 : decode cX8_changes 85 = .ok (.iaload, 1) := by decide +kernel
theorem dX8_changes_86 : decode cX8_changes 86 = .ok (.iastore, 1) := by decide +kernel
theorem dX8_changes_87 : decode cX8_changes 87 = .ok (.iinc 1 1, 3) := by decide +kernel
theorem dX8_changes_90 : decode cX8_changes 90 = .ok (.goto (-31), 3) := by decide +kernel
theorem dX8_changes_93 : decode cX8_changes 93 = .ok (.aload_n 0, 1) := by decide +kernel
theorem dX8_changes_94 : decode cX8_changes 94 = .ok (.dup, 1) := by decide +kernel
theorem dX8_changes_95 : decode cX8_changes 95 = .ok (.getfield 36, 3) := by decide +kernel
theorem dX8_changes_98 : decode cX8_changes 98 = .ok (.iconst 1, 1) := by decide +kernel
theorem dX8_changes_99 : decode cX8_changes 99 = .ok (.iadd, 1) := by decide +kernel
theorem dX8_changes_100 : decode cX8_changes 100 = .ok (.putfield 36, 3) := by decide +kernel
theorem dX8_changes_103 : decode cX8_changes 103 = .ok (.return_, 1) := by decide +kernel
theorem dX8_amountOf_0 : decode cX8_amountOf 0 = .ok (.iload_n 0, 1) := by decide +kernel
theorem dX8_amountOf_1 : decode cX8_amountOf 1 = .ok (.sipush 512, 3) := by decide +kernel
theorem dX8_amountOf_4 : decode cX8_amountOf 4 = .ok (.irem, 1) := by decide +kernel
theorem dX8_amountOf_5 : decode cX8_amountOf 5 = .ok (.ireturn, 1) := by decide +kernel
theorem dX8_kindOf_0 : decode cX8_kindOf 0 = .ok (.iload_n 0, 1) := by decide +kernel
theorem dX8_kindOf_1 : decode cX8_kindOf 1 = .ok (.sipush 512, 3) := by decide +kernel
theorem dX8_kindOf_4 : decode cX8_kindOf 4 = .ok (.idiv, 1) := by decide +kernel
theorem dX8_kindOf_5 : decode cX8_kindOf 5 = .ok (.iconst 2, 1) := by decide +kernel
theorem dX8_kindOf_6 : decode cX8_kindOf 6 = .ok (.irem, 1) := by decide +kernel
theorem dX8_kindOf_7 : decode cX8_kindOf 7 = .ok (.ireturn, 1) := by decide +kernel
theorem dX8_burrIn_0 : decode cX8_burrIn 0 = .ok (.iload_n 0, 1) := by decide +kernel
theorem dX8_burrIn_1 : decode cX8_burrIn 1 = .ok (.sipush 1024, 3) := by decide +kernel
theorem dX8_burrIn_4 : decode cX8_burrIn 4 = .ok (.idiv, 1) := by decide +kernel
theorem dX8_burrIn_5 : decode cX8_burrIn 5 = .ok (.iconst 2, 1) := by decide +kernel
theorem dX8_burrIn_6 : decode cX8_burrIn 6 = .ok (.irem, 1) := by decide +kernel
theorem dX8_burrIn_7 : decode cX8_burrIn 7 = .ok (.ireturn, 1) := by decide +kernel
theorem dX8_gapOf_0 : decode cX8_gapOf 0 = .ok (.iload_n 0, 1) := by decide +kernel
theorem dX8_gapOf_1 : decode cX8_gapOf 1 = .ok (.sipush 2048, 3) := by decide +kernel
theorem dX8_gapOf_4 : decode cX8_gapOf 4 = .ok (.idiv, 1) := by decide +kernel
theorem dX8_gapOf_5 : decode cX8_gapOf 5 = .ok (.ireturn, 1) := by decide +kernel
set_option maxRecDepth 20000 in
theorem ggX8_flowOf_X8_kindOf : GoodIn wsX8_flowOf wsX8_kindOf := goodIn_r _ [5] (by decide +kernel) (by decide +kernel)
set_option maxRecDepth 20000 in
theorem gX8_flowOf_X8_kindOf : GoodIn wsX8_flowOf (va_wsS RX8 40 yX8_kindOf wsX8_kindOf) := goodIn_app (goodIn_of _ (by decide +kernel)) ggX8_flowOf_X8_kindOf
set_option maxRecDepth 20000 in
theorem ggX8_flowOf_X8_gapOf : GoodIn wsX8_flowOf wsX8_gapOf := goodIn_r _ [8] (by decide +kernel) (by decide +kernel)
set_option maxRecDepth 20000 in
theorem gX8_flowOf_X8_gapOf : GoodIn wsX8_flowOf (va_wsS RX8 44 yX8_gapOf wsX8_gapOf) := goodIn_app (goodIn_of _ (by decide +kernel)) ggX8_flowOf_X8_gapOf
theorem dX8_flowOf_0 : decode cX8_flowOf 0 = .ok (.aload_n 0, 1) := by decide +kernel
theorem dX8_flowOf_1 : decode cX8_flowOf 1 = .ok (.getfield 7, 3) := by decide +kernel
theorem dX8_flowOf_4 : decode cX8_flowOf 4 = .ok (.bipush 10, 2) := by decide +kernel
theorem dX8_flowOf_6 : decode cX8_flowOf 6 = .ok (.iload_n 1, 1) := by decide +kernel
theorem dX8_flowOf_7 : decode cX8_flowOf 7 = .ok (.invokestatic 40, 3) := by decide +kernel
theorem dX8_flowOf_10 : decode cX8_flowOf 10 = .ok (.iadd, 1) := by decide +kernel
theorem dX8_flowOf_11 : decode cX8_flowOf 11 = .ok (.iaload, 1) := by decide +kernel
theorem dX8_flowOf_12 : decode cX8_flowOf 12 = .ok (.sipush 1000, 3) := by decide +kernel
theorem dX8_flowOf_15 : decode cX8_flowOf 15 = .ok (.imul, 1) := by decide +kernel
theorem dX8_flowOf_16 : decode cX8_flowOf 16 = .ok (.iload_n 1, 1) := by decide +kernel
theorem dX8_flowOf_17 : decode cX8_flowOf 17 = .ok (.invokestatic 44, 3) := by decide +kernel
theorem dX8_flowOf_20 : decode cX8_flowOf 20 = .ok (.idiv, 1) := by decide +kernel
theorem dX8_flowOf_21 : decode cX8_flowOf 21 = .ok (.ireturn, 1) := by decide +kernel
set_option maxRecDepth 20000 in
theorem ggX8_amounts_X8_amountOf : GoodIn wsX8_amounts wsX8_amountOf := goodIn_r _ [5] (by decide +kernel) (by decide +kernel)
set_option maxRecDepth 20000 in
theorem gX8_amounts_X8_amountOf : GoodIn wsX8_amounts (va_wsS RX8 47 yX8_amountOf wsX8_amountOf) := goodIn_app (goodIn_of _ (by decide +kernel)) ggX8_amounts_X8_amountOf
theorem dX8_amounts_0 : decode cX8_amounts 0 = .ok (.iconst 0, 1) := by decide +kernel
theorem dX8_amounts_1 : decode cX8_amounts 1 = .ok (.istore_n 3, 1) := by decide +kernel
theorem dX8_amounts_2 : decode cX8_amounts 2 = .ok (.iconst 0, 1) := by decide +kernel
theorem dX8_amounts_3 : decode cX8_amounts 3 = .ok (.istore 4, 2) := by decide +kernel
theorem dX8_amounts_5 : decode cX8_amounts 5 = .ok (.iload 4, 2) := by decide +kernel
theorem dX8_amounts_7 : decode cX8_amounts 7 = .ok (.aload_n 0, 1) := by decide +kernel
theorem dX8_amounts_8 : decode cX8_amounts 8 = .ok (.getfield 7, 3) := by decide +kernel
theorem dX8_amounts_11 : decode cX8_amounts 11 = .ok (.iload_n 1, 1) := by decide +kernel
theorem dX8_amounts_12 : decode cX8_amounts 12 = .ok (.iaload, 1) := by decide +kernel
theorem dX8_amounts_13 : decode cX8_amounts 13 = .ok (.if_icmp .ge 24, 3) := by decide +kernel
theorem dX8_amounts_16 : decode cX8_amounts 16 = .ok (.iload_n 3, 1) := by decide +kernel
theorem dX8_amounts_17 : decode cX8_amounts 17 = .ok (.aload_n 0, 1) := by decide +kernel
theorem dX8_amounts_18 : decode cX8_amounts 18 = .ok (.getfield 7, 3) := by decide +kernel
theorem dX8_amounts_21 : decode cX8_amounts 21 = .ok (.iload_n 2, 1) := by decide +kernel
theorem dX8_amounts_22 : decode cX8_amounts 22 = .ok (.iload 4, 2) := by decide +kernel
theorem dX8_amounts_24 : decode cX8_amounts 24 = .ok (.iadd, 1) := by decide +kernel
theorem dX8_amounts_25 : decode cX8_amounts 25 = .ok (.iaload, 1) := by decide +kernel
theorem dX8_amounts_26 : decode cX8_amounts 26 = .ok (.invokestatic 47, 3) := by decide +kernel
theorem dX8_amounts_29 : decode cX8_amounts 29 = .ok (.iadd, 1) := by decide +kernel
theorem dX8_amounts_30 : decode cX8_amounts 30 = .ok (.istore_n 3, 1) := by decide +kernel
theorem dX8_amounts_31 : decode cX8_amounts 31 = .ok (.iinc 4 1, 3) := by decide +kernel
theorem dX8_amounts_34 : decode cX8_amounts 34 = .ok (.goto (-29), 3) := by decide +kernel
theorem dX8_amounts_37 : decode cX8_amounts 37 = .ok (.iload_n 3, 1) := by decide +kernel
theorem dX8_amounts_38 : decode cX8_amounts 38 = .ok (.ireturn, 1) := by decide +kernel
theorem dX8_hopper_0 : decode cX8_hopper 0 = .ok (.iconst 0, 1) := by decide +kernel
theorem dX8_hopper_1 : decode cX8_hopper 1 = .ok (.istore_n 1, 1) := by decide +kernel
theorem dX8_hopper_2 : decode cX8_hopper 2 = .ok (.iconst 0, 1) := by decide +kernel
theorem dX8_hopper_3 : decode cX8_hopper 3 = .ok (.istore_n 2, 1) := by decide +kernel
theorem dX8_hopper_4 : decode cX8_hopper 4 = .ok (.iload_n 2, 1) := by decide +kernel
theorem dX8_hopper_5 : decode cX8_hopper 5 = .ok (.aload_n 0, 1) := by decide +kernel
theorem dX8_hopper_6 : decode cX8_hopper 6 = .ok (.getfield 7, 3) := by decide +kernel
theorem dX8_hopper_9 : decode cX8_hopper 9 = .ok (.bipush 21, 2) := by decide +kernel
theorem dX8_hopper_11 : decode cX8_hopper 11 = .ok (.iaload, 1) := by decide +kernel
theorem dX8_hopper_12 : decode cX8_hopper 12 = .ok (.if_icmp .ge 25, 3) := by decide +kernel
theorem dX8_hopper_15 : decode cX8_hopper 15 = .ok (.iload_n 1, 1) := by decide +kernel
theorem dX8_hopper_16 : decode cX8_hopper 16 = .ok (.aload_n 0, 1) := by decide +kernel
theorem dX8_hopper_17 : decode cX8_hopper 17 = .ok (.getfield 7, 3) := by decide +kernel
theorem dX8_hopper_20 : decode cX8_hopper 20 = .ok (.bipush 22, 2) := by decide +kernel
theorem dX8_hopper_22 : decode cX8_hopper 22 = .ok (.iconst 2, 1) := by decide +kernel
theorem dX8_hopper_23 : decode cX8_hopper 23 = .ok (.iload_n 2, 1) := by decide +kernel
theorem dX8_hopper_24 : decode cX8_hopper 24 = .ok (.imul, 1) := by decide +kernel
theorem dX8_hopper_25 : decode cX8_hopper 25 = .ok (.iadd, 1) := by decide +kernel
theorem dX8_hopper_26 : decode cX8_hopper 26 = .ok (.iconst 1, 1) := by decide +kernel
theorem dX8_hopper_27 : decode cX8_hopper 27 = .ok (.iadd, 1) := by decide +kernel
theorem dX8_hopper_28 : decode cX8_hopper 28 = .ok (.iaload, 1) := by decide +kernel
theorem dX8_hopper_29 : decode cX8_hopper 29 = .ok (.iadd, 1) := by decide +kernel
theorem dX8_hopper_30 : decode cX8_hopper 30 = .ok (.istore_n 1, 1) := by decide +kernel
theorem dX8_hopper_31 : decode cX8_hopper 31 = .ok (.iinc 2 1, 3) := by decide +kernel
theorem dX8_hopper_34 : decode cX8_hopper 34 = .ok (.goto (-30), 3) := by decide +kernel
theorem dX8_hopper_37 : decode cX8_hopper 37 = .ok (.iload_n 1, 1) := by decide +kernel
theorem dX8_hopper_38 : decode cX8_hopper 38 = .ok (.ireturn, 1) := by decide +kernel
theorem dX8_ofBurr_0 : decode cX8_ofBurr 0 = .ok (.aload_n 0, 1) := by decide +kernel
theorem dX8_ofBurr_1 : decode cX8_ofBurr 1 = .ok (.getfield 7, 3) := by decide +kernel
theorem dX8_ofBurr_4 : decode cX8_ofBurr 4 = .ok (.bipush 13, 2) := by decide +kernel
theorem dX8_ofBurr_6 : decode cX8_ofBurr 6 = .ok (.iconst 4, 1) := by decide +kernel
theorem dX8_ofBurr_7 : decode cX8_ofBurr 7 = .ok (.iload_n 1, 1) := by decide +kernel
theorem dX8_ofBurr_8 : decode cX8_ofBurr 8 = .ok (.imul, 1) := by decide +kernel
theorem dX8_ofBurr_9 : decode cX8_ofBurr 9 = .ok (.iadd, 1) := by decide +kernel
theorem dX8_ofBurr_10 : decode cX8_ofBurr 10 = .ok (.iload_n 2, 1) := by decide +kernel
theorem dX8_ofBurr_11 : decode cX8_ofBurr 11 = .ok (.iadd, 1) := by decide +kernel
theorem dX8_ofBurr_12 : decode cX8_ofBurr 12 = .ok (.iaload, 1) := by decide +kernel
theorem dX8_ofBurr_13 : decode cX8_ofBurr 13 = .ok (.ireturn, 1) := by decide +kernel
theorem dX8_gapBy_0 : decode cX8_gapBy 0 = .ok (.bipush 10, 2) := by decide +kernel
theorem dX8_gapBy_2 : decode cX8_gapBy 2 = .ok (.iload_n 0, 1) := by decide +kernel
theorem dX8_gapBy_3 : decode cX8_gapBy 3 = .ok (.imul, 1) := by decide +kernel
theorem dX8_gapBy_4 : decode cX8_gapBy 4 = .ok (.iload_n 1, 1) := by decide +kernel
theorem dX8_gapBy_5 : decode cX8_gapBy 5 = .ok (.iconst 5, 1) := by decide +kernel
theorem dX8_gapBy_6 : decode cX8_gapBy 6 = .ok (.idiv, 1) := by decide +kernel
theorem dX8_gapBy_7 : decode cX8_gapBy 7 = .ok (.isub, 1) := by decide +kernel
theorem dX8_gapBy_8 : decode cX8_gapBy 8 = .ok (.istore_n 2, 1) := by decide +kernel
theorem dX8_gapBy_9 : decode cX8_gapBy 9 = .ok (.iload_n 2, 1) := by decide +kernel
theorem dX8_gapBy_10 : decode cX8_gapBy 10 = .ok (.bipush 10, 2) := by decide +kernel
theorem dX8_gapBy_12 : decode cX8_gapBy 12 = .ok (.if_icmp .ge 8, 3) := by decide +kernel
theorem dX8_gapBy_15 : decode cX8_gapBy 15 = .ok (.bipush 10, 2) := by decide +kernel
theorem dX8_gapBy_17 : decode cX8_gapBy 17 = .ok (.goto 4, 3) := by decide +kernel
theorem dX8_gapBy_20 : decode cX8_gapBy 20 = .ok (.iload_n 2, 1) := by decide +kernel
theorem dX8_gapBy_21 : decode cX8_gapBy 21 = .ok (.ireturn, 1) := by decide +kernel
set_option maxRecDepth 20000 in
theorem ggX8_gap_X8_ofBurr : GoodIn wsX8_gap wsX8_ofBurr := goodIn_r _ [5, 6, 10, 11, 12, 13, 14, 15, 16, 17, 18, 19, 20, 21, 22, 23, 24] (by decide +kernel) (by decide +kernel)
set_option maxRecDepth 20000 in
theorem gX8_gap_X8_ofBurr : GoodIn wsX8_gap (wsV RX8 50 RX8 yX8_ofBurr wsX8_ofBurr) := goodIn_app (goodIn_of _ (by decide +kernel)) ggX8_gap_X8_ofBurr
set_option maxRecDepth 20000 in
theorem ggX8_gap_X8_gapBy : GoodIn wsX8_gap wsX8_gapBy := goodIn_r _ [9] (by decide +kernel) (by decide +kernel)
set_option maxRecDepth 20000 in
theorem gX8_gap_X8_gapBy : GoodIn wsX8_gap (va_wsS RX8 54 yX8_gapBy wsX8_gapBy) := goodIn_app (goodIn_of _ (by decide +kernel)) ggX8_gap_X8_gapBy
theorem dX8_gap_0 : decode cX8_gap 0 = .ok (.aload_n 0, 1) := by decide +kernel
theorem dX8_gap_1 : decode cX8_gap 1 = .ok (.iload_n 1, 1) := by decide +kernel
theorem dX8_gap_2 : decode cX8_gap 2 = .ok (.iconst 0, 1) := by decide +kernel
theorem dX8_gap_3 : decode cX8_gap 3 = .ok (.invokevirtual 50, 3) := by decide +kernel
theorem dX8_gap_6 : decode cX8_gap 6 = .ok (.aload_n 0, 1) := by decide +kernel
theorem dX8_gap_7 : decode cX8_gap 7 = .ok (.iload_n 1, 1) := by decide +kernel
theorem dX8_gap_8 : decode cX8_gap 8 = .ok (.iconst 1, 1) := by decide +kernel
theorem dX8_gap_9 : decode cX8_gap 9 = .ok (.invokevirtual 50, 3) := by decide +kernel
theorem dX8_gap_12 : decode cX8_gap 12 = .ok (.invokestatic 54, 3) := by decide +kernel
theorem dX8_gap_15 : decode cX8_gap 15 = .ok (.ireturn, 1) := by decide +kernel
theorem dX8_fall_0 : decode cX8_fall 0 = .ok (.iload_n 0, 1) := by decide +kernel
theorem dX8_fall_1 : decode cX8_fall 1 = .ok (.ifCond .ne 7, 3) := by decide +kernel
theorem dX8_fall_4 : decode cX8_fall 4 = .ok (.iconst 0, 1) := by decide +kernel
theorem dX8_fall_5 : decode cX8_fall 5 = .ok (.goto 17, 3) := by decide +kernel
theorem dX8_fall_8 : decode cX8_fall 8 = .ok (.iload_n 0, 1) := by decide +kernel
theorem dX8_fall_9 : decode cX8_fall 9 = .ok (.bipush 16, 2) := by decide +kernel
theorem dX8_fall_11 : decode cX8_fall 11 = .ok (.if_icmp .ge 7, 3) := by decide +kernel
theorem dX8_fall_14 : decode cX8_fall 14 = .ok (.iconst 1, 1) := by decide +kernel
theorem dX8_fall_15 : decode cX8_fall 15 = .ok (.goto 7, 3) := by decide +kernel
theorem dX8_fall_18 : decode cX8_fall 18 = .ok (.iload_n 0, 1) := by decide +kernel
theorem dX8_fall_19 : decode cX8_fall 19 = .ok (.bipush 16, 2) := by decide +kernel
theorem dX8_fall_21 : decode cX8_fall 21 = .ok (.idiv, 1) := by decide +kernel
theorem dX8_fall_22 : decode cX8_fall 22 = .ok (.ireturn, 1) := by decide +kernel
set_option maxRecDepth 20000 in
theorem ggX8_passes_X8_ofBurr : GoodIn wsX8_passes wsX8_ofBurr := goodIn_r _ [6, 1, 10, 11, 12, 13, 14, 15, 16, 17, 18, 19, 20, 21, 22, 23, 24] (by decide +kernel) (by decide +kernel)
set_option maxRecDepth 20000 in
theorem gX8_passes_X8_ofBurr : GoodIn wsX8_passes (wsV RX8 50 RX8 yX8_ofBurr wsX8_ofBurr) := goodIn_app (goodIn_of _ (by decide +kernel)) ggX8_passes_X8_ofBurr
set_option maxRecDepth 20000 in
theorem ggX8_passes_X8_fall : GoodIn wsX8_passes wsX8_fall := goodIn_r _ [9] (by decide +kernel) (by decide +kernel)
set_option maxRecDepth 20000 in
theorem gX8_passes_X8_fall : GoodIn wsX8_passes (va_wsS RX8 57 yX8_fall wsX8_fall) := goodIn_app (goodIn_of _ (by decide +kernel)) ggX8_passes_X8_fall
theorem dX8_passes_0 : decode cX8_passes 0 = .ok (.iconst 0, 1) := by decide +kernel
theorem dX8_passes_1 : decode cX8_passes 1 = .ok (.istore_n 2, 1) := by decide +kernel
theorem dX8_passes_2 : decode cX8_passes 2 = .ok (.iconst 0, 1) := by decide +kernel
theorem dX8_passes_3 : decode cX8_passes 3 = .ok (.istore_n 3, 1) := by decide +kernel
theorem dX8_passes_4 : decode cX8_passes 4 = .ok (.iload_n 3, 1) := by decide +kernel
theorem dX8_passes_5 : decode cX8_passes 5 = .ok (.iload_n 1, 1) := by decide +kernel
theorem dX8_passes_6 : decode cX8_passes 6 = .ok (.if_icmp .ge 82, 3) := by decide +kernel
theorem dX8_passes_9 : decode cX8_passes 9 = .ok (.aload_n 0, 1) := by decide +kernel
theorem dX8_passes_10 : decode cX8_passes 10 = .ok (.getfield 7, 3) := by decide +kernel
theorem dX8_passes_13 : decode cX8_passes 13 = .ok (.iconst 0, 1) := by decide +kernel
theorem dX8_passes_14 : decode cX8_passes 14 = .ok (.dup2, 1) := by decide +kernel
theorem dX8_passes_15 : decode cX8_passes 15 = .ok (.iaload, 1) := by decide +kernel
theorem dX8_passes_16 : decode cX8_passes 16 = .ok (.iconst 1, 1) := by decide +kernel
theorem dX8_passes_17 : decode cX8_passes 17 = .ok (.iadd, 1) := by decide +kernel
theorem dX8_passes_18 : decode cX8_passes 18 = .ok (.iastore, 1) := by decide +kernel
theorem dX8_passes_19 : decode cX8_passes 19 = .ok (.iconst 0, 1) := by decide +kernel
theorem dX8_passes_20 : decode cX8_passes 20 = .ok (.istore 4, 2) := by decide +kernel
theorem dX8_passes_22 : decode cX8_passes 22 = .ok (.iload 4, 2) := by decide +kernel
theorem dX8_passes_24 : decode cX8_passes 24 = .ok (.iconst 2, 1) := by decide +kernel
theorem dX8_passes_25 : decode cX8_passes 25 = .ok (.if_icmp .ge 57, 3) := by decide +kernel
theorem dX8_passes_28 : decode cX8_passes 28 = .ok (.aload_n 0, 1) := by decide +kernel
theorem dX8_passes_29 : decode cX8_passes 29 = .ok (.getfield 7, 3) := by decide +kernel
theorem dX8_passes_32 : decode cX8_passes 32 = .ok (.iconst 0, 1) := by decide +kernel
theorem dX8_passes_33 : decode cX8_passes 33 = .ok (.iaload, 1) := by decide +kernel
theorem dX8_passes_34 : decode cX8_passes 34 = .ok (.bipush 10, 2) := by decide +kernel
theorem dX8_passes_36 : decode cX8_passes 36 = .ok (.irem, 1) := by decide +kernel
theorem dX8_passes_37 : decode cX8_passes 37 = .ok (.ifCond .ne 45, 3) := by decide +kernel
theorem dX8_passes_40 : decode cX8_passes 40 = .ok (.aload_n 0, 1) := by decide +kernel
theorem dX8_passes_41 : decode cX8_passes 41 = .ok (.iload 4, 2) := by decide +kernel
theorem dX8_passes_43 : decode cX8_passes 43 = .ok (.iconst 1, 1) := by decide +kernel
theorem dX8_passes_44 : decode cX8_passes 44 = .ok (.invokevirtual 50, 3) := by decide +kernel
theorem dX8_passes_47 : decode cX8_passes 47 = .ok (.invokestatic 57, 3) := by decide +kernel
theorem dX8_passes_50 : decode cX8_passes 50 = .ok (.istore 5, 2) := by decide +kernel
theorem dX8_passes_52 : decode cX8_passes 52 = .ok (.aload_n 0, 1) := by decide +kernel
theorem dX8_passes_53 : decode cX8_passes 53 = .ok (.getfield 7, 3) := by decide +kernel
theorem dX8_passes_56 : decode cX8_passes 56 = .ok (.bipush 13, 2) := by decide +kernel
theorem dX8_passes_58 : decode cX8_passes 58 = .ok (.iconst 4, 1) := by decide +kernel
theorem dX8_passes_59 : decode cX8_passes 59 = .ok (.iload 4, 2) := by decide +kernel
theorem dX8_passes_61 : decode cX8_passes 61 = .ok (.imul, 1) := by decide +kernel
theorem dX8_passes_62 : decode cX8_passes 62 = .ok (.iadd, 1) := by decide +kernel
theorem dX8_passes_63 : decode cX8_passes 63 = .ok (.iconst 1, 1) := by decide +kernel
theorem dX8_passes_64 : decode cX8_passes 64 = .ok (.iadd, 1) := by decide +kernel
theorem dX8_passes_65 : decode cX8_passes 65 = .ok (.dup2, 1) := by decide +kernel
theorem dX8_passes_66 : decode cX8_passes 66 = .ok (.iaload, 1) := by decide +kernel
theorem dX8_passes_67 : decode cX8_passes 67 = .ok (.iload 5, 2) := by decide +kernel
theorem dX8_passes_69 : decode cX8_passes 69 = .ok (.isub, 1) := by decide +kernel
theorem dX8_passes_70 : decode cX8_passes 70 = .ok (.iastore, 1) := by decide +kernel
theorem dX8_passes_71 : decode cX8_passes 71 = .ok (.iload_n 2, 1) := by decide +kernel
theorem dX8_passes_72 : decode cX8_passes 72 = .ok (.iload 5, 2) := by decide +kernel
theorem dX8_passes_74 : decode cX8_passes 74 = .ok (.iadd, 1) := by decide +kernel
theorem dX8_passes_75 : decode cX8_passes 75 = .ok (.istore_n 2, 1) := by decide +kernel
theorem dX8_passes_76 : decode cX8_passes 76 = .ok (.iinc 4 1, 3) := by decide +kernel
theorem dX8_passes_79 : decode cX8_passes 79 = .ok (.goto (-57), 3) := by decide +kernel
theorem dX8_passes_82 : decode cX8_passes 82 = .ok (.iinc 3 1, 3) := by decide +kernel
theorem dX8_passes_85 : decode cX8_passes 85 = .ok (.goto (-81), 3) := by decide +kernel
theorem dX8_passes_88 : decode cX8_passes 88 = .ok (.iload_n 2, 1) := by decide +kernel
theorem dX8_passes_89 : decode cX8_passes 89 = .ok (.ireturn, 1) := by decide +kernel
set_option maxRecDepth 20000 in
theorem ggX8_fill_X8_isOne : GoodIn wsX8_fill wsX8_isOne := goodIn_r _ [7, 8, 9, 6, 10] (by decide +kernel) (by decide +kernel)
set_option maxRecDepth 20000 in
theorem gX8_fill_X8_isOne : GoodIn wsX8_fill (va_wsS RX8 60 yX8_isOne wsX8_isOne) := goodIn_app (goodIn_of _ (by decide +kernel)) ggX8_fill_X8_isOne
set_option maxRecDepth 20000 in
theorem ggX8_fill_X8_in : GoodIn wsX8_fill wsX8_in := goodIn_r _ [10] (by decide +kernel) (by decide +kernel)
set_option maxRecDepth 20000 in
theorem gX8_fill_X8_in : GoodIn wsX8_fill (va_wsS RX8 28 yX8_in wsX8_in) := goodIn_app (goodIn_of _ (by decide +kernel)) ggX8_fill_X8_in
set_option maxRecDepth 20000 in
theorem ggX8_fill_X8_hopper : GoodIn wsX8_fill wsX8_hopper := goodIn_r _ [14, 2, 22, 23, 24, 25, 26, 27, 28, 29, 30, 31, 32, 33, 34, 35, 36] (by decide +kernel) (by decide +kernel)
set_option maxRecDepth 20000 in
theorem gX8_fill_X8_hopper : GoodIn wsX8_fill (wsV RX8 65 RX8 yX8_hopper wsX8_hopper) := goodIn_app (goodIn_of _ (by decide +kernel)) ggX8_fill_X8_hopper
set_option maxRecDepth 20000 in
theorem ggX8_fill_X8_changes : GoodIn wsX8_fill wsX8_changes := goodIn_r _ [18, 19, 20, 21, 2, 22, 23, 24, 25, 26, 27, 28, 29, 30, 31, 32, 33, 34, 35, 36] (by decide +kernel) (by decide +kernel)
set_option maxRecDepth 20000 in
theorem gX8_fill_X8_changes : GoodIn wsX8_fill (wsV RX8 70 RX8 yX8_changes wsX8_changes) := goodIn_app (goodIn_of _ (by decide +kernel)) ggX8_fill_X8_changes
theorem dX8_fill_0 : decode cX8_fill 0 = .ok (.iload_n 1, 1) := by decide +kernel
theorem dX8_fill_1 : decode cX8_fill 1 = .ok (.invokestatic 60, 3) := by decide +kernel
theorem dX8_fill_4 : decode cX8_fill 4 = .ok (.ifCond .eq 14, 3) := by decide +kernel
theorem dX8_fill_7 : decode cX8_fill 7 = .ok (.iload_n 2, 1) := by decide +kernel
theorem dX8_fill_8 : decode cX8_fill 8 = .ok (.iconst 1, 1) := by decide +kernel
theorem dX8_fill_9 : decode cX8_fill 9 = .ok (.sipush 999, 3) := by decide +kernel
theorem dX8_fill_12 : decode cX8_fill 12 = .ok (.invokestatic 28, 3) := by decide +kernel
theorem dX8_fill_15 : decode cX8_fill 15 = .ok (.ifCond .ne 6, 3) := by decide +kernel
theorem dX8_fill_18 : decode cX8_fill 18 = .ok (.ldc 64, 2) := by decide +kernel
theorem dX8_fill_20 : decode cX8_fill 20 = .ok (.ireturn, 1) := by decide +kernel
theorem dX8_fill_21 : decode cX8_fill 21 = .ok (.aload_n 0, 1) := by decide +kernel
theorem dX8_fill_22 : decode cX8_fill 22 = .ok (.getfield 7, 3) := by decide +kernel
theorem dX8_fill_25 : decode cX8_fill 25 = .ok (.bipush 21, 2) := by decide +kernel
theorem dX8_fill_27 : decode cX8_fill 27 = .ok (.iaload, 1) := by decide +kernel
theorem dX8_fill_28 : decode cX8_fill 28 = .ok (.iconst 1, 1) := by decide +kernel
theorem dX8_fill_29 : decode cX8_fill 29 = .ok (.isub, 1) := by decide +kernel
theorem dX8_fill_30 : decode cX8_fill 30 = .ok (.istore_n 3, 1) := by decide +kernel
theorem dX8_fill_31 : decode cX8_fill 31 = .ok (.iload_n 3, 1) := by decide +kernel
theorem dX8_fill_32 : decode cX8_fill 32 = .ok (.ifCond .lt 22, 3) := by decide +kernel
theorem dX8_fill_35 : decode cX8_fill 35 = .ok (.aload_n 0, 1) := by decide +kernel
theorem dX8_fill_36 : decode cX8_fill 36 = .ok (.getfield 7, 3) := by decide +kernel
theorem dX8_fill_39 : decode cX8_fill 39 = .ok (.bipush 22, 2) := by decide +kernel
theorem dX8_fill_41 : decode cX8_fill 41 = .ok (.iconst 2, 1) := by decide +kernel
theorem dX8_fill_42 : decode cX8_fill 42 = .ok (.iload_n 3, 1) := by decide +kernel
theorem dX8_fill_43 : decode cX8_fill 43 = .ok (.imul, 1) := by decide +kernel
theorem dX8_fill_44 : decode cX8_fill 44 = .ok (.iadd, 1) := by decide +kernel
theorem dX8_fill_45 : decode cX8_fill 45 = .ok (.iaload, 1) := by decide +kernel
theorem dX8_fill_46 : decode cX8_fill 46 = .ok (.iload_n 1, 1) := by decide +kernel
theorem dX8_fill_47 : decode cX8_fill 47 = .ok (.if_icmp .ne 7, 3) := by decide +kernel
theorem dX8_fill_50 : decode cX8_fill 50 = .ok (.iconst 1, 1) := by decide +kernel
theorem dX8_fill_51 : decode cX8_fill 51 = .ok (.goto 4, 3) := by decide +kernel
theorem dX8_fill_54 : decode cX8_fill 54 = .ok (.iconst 0, 1) := by decide +kernel
theorem dX8_fill_55 : decode cX8_fill 55 = .ok (.istore 4, 2) := by decide +kernel
theorem dX8_fill_57 : decode cX8_fill 57 = .ok (.iload 4, 2) := by decide +kernel
theorem dX8_fill_59 : decode cX8_fill 59 = .ok (.ifCond .ne 15, 3) := by decide +kernel
theorem dX8_fill_62 : decode cX8_fill 62 = .ok (.aload_n 0, 1) := by decide +kernel
theorem dX8_fill_63 : decode cX8_fill 63 = .ok (.getfield 7, 3) := by decide +kernel
theorem dX8_fill_66 : decode cX8_fill 66 = .ok (.bipush 21, 2) := by decide +kernel
theorem dX8_fill_68 : decode cX8_fill 68 = .ok (.iaload, 1) := by decide +kernel
theorem dX8_fill_69 : decode cX8_fill 69 = .ok (.bipush 6, 2) := by decide +kernel
theorem dX8_fill_71 : decode cX8_fill 71 = .ok (.if_icmp .eq 15, 3) := by decide +kernel
theorem dX8_fill_74 : decode cX8_fill 74 = .ok (.aload_n 0, 1) := by decide +kernel
theorem dX8_fill_75 : decode cX8_fill 75 = .ok (.invokevirtual 65, 3) := by decide +kernel
theorem dX8_fill_78 : decode cX8_fill 78 = .ok (.iload_n 2, 1) := by decide +kernel
theorem dX8_fill_79 : decode cX8_fill 79 = .ok (.iadd, 1) := by decide +kernel
theorem dX8_fill_80 : decode cX8_fill 80 = .ok (.sipush 4000, 3) := by decide +kernel
theorem dX8_fill_83 : decode cX8_fill 83 = .ok (.if_icmp .le 6, 3) := by decide +kernel
theorem dX8_fill_86 : decode cX8_fill 86 = .ok (.ldc 69, 2) := by decide +kernel
theorem dX8_fill_88 : decode cX8_fill 88 = .ok (.ireturn, 1) := by decide +kernel
theorem dX8_fill_89 : decode cX8_fill 89 = .ok (.aload_n 0, 1) := by decide +kernel
theorem dX8_fill_90 : decode cX8_fill 90 = .ok (.invokevirtual 70, 3) := by decide +kernel
theorem dX8_fill_93 : decode cX8_fill 93 = .ok (.iload 4, 2) := by decide +kernel
theorem dX8_fill_95 : decode cX8_fill 95 = .ok (.ifCond .eq 23, 3) := by decide +kernel
theorem dX8_fill_98 : decode cX8_fill 98 = .ok (.aload_n 0, 1) := by decide +kernel
theorem dX8_fill_99 : decode cX8_fill 99 = .ok (.getfield 7, 3) := by decide +kernel
theorem dX8_fill_102 : decode cX8_fill 102 = .ok (.bipush 22, 2) := by decide +kernel
theorem dX8_fill_104 : decode cX8_fill 104 = .ok (.iconst 2, 1) := by decide +kernel
theorem dX8_fill_105 : decode cX8_fill 105 = .ok (.iload_n 3, 1) := by decide +kernel
theorem dX8_fill_106 : decode cX8_fill 106 = .ok (.imul, 1) := by decide +kernel
theorem dX8_fill_107 : decode cX8_fill 107 = .ok (.iadd, 1) := by decide +kernel
theorem dX8_fill_108 : decode cX8_fill 108 = .ok (.iconst 1, 1) := by decide +kernel
theorem dX8_fill_109 : decode cX8_fill 109 = .ok (.iadd, 1) := by decide +kernel
theorem dX8_fill_110 : decode cX8_fill 110 = .ok (.dup2, 1) := by decide +kernel
theorem dX8_fill_111 : decode cX8_fill 111 = .ok (.iaload, 1) := by decide +kernel
theorem dX8_fill_112 : decode cX8_fill 112 = .ok (.iload_n 2, 1) := by decide +kernel
theorem dX8_fill_113 : decode cX8_fill 113 = .ok (.iadd, 1) := by decide +kernel
theorem dX8_fill_114 : decode cX8_fill 114 = .ok (.iastore, 1) := by decide +kernel
theorem dX8_fill_115 : decode cX8_fill 115 = .ok (.goto 52, 3) := by decide +kernel
theorem dX8_fill_118 : decode cX8_fill 118 = .ok (.aload_n 0, 1) := by decide +kernel
theorem dX8_fill_119 : decode cX8_fill 119 = .ok (.getfield 7, 3) := by decide +kernel
theorem dX8_fill_122 : decode cX8_fill 122 = .ok (.bipush 22, 2) := by decide +kernel
theorem dX8_fill_124 : decode cX8_fill 124 = .ok (.iconst 2, 1) := by decide +kernel
theorem dX8_fill_125 : decode cX8_fill 125 = .ok (.aload_n 0, 1) := by decide +kernel
theorem dX8_fill_126 : decode cX8_fill 126 = .ok (.getfield 7, 3) := by decide +kernel
theorem dX8_fill_129 : decode cX8_fill 129 = .ok (.bipush 21, 2) := by decide +kernel
theorem dX8_fill_131 : decode cX8_fill 131 = .ok (.iaload, 1) := by decide +kernel
theorem dX8_fill_132 : decode cX8_fill 132 = .ok (.imul, 1) := by decide +kernel
theorem dX8_fill_133 : decode cX8_fill 133 = .ok (.iadd, 1) := by decide +kernel
theorem dX8_fill_134 : decode cX8_fill 134 = .ok (.iload_n 1, 1) := by decide +kernel
theorem dX8_fill_135 : decode cX8_fill 135 = .ok (.iastore, 1) := by decide +kernel
theorem dX8_fill_136 : decode cX8_fill 136 = .ok (.aload_n 0, 1) := by decide +kernel
theorem dX8_fill_137 : decode cX8_fill 137 = .ok (.getfield 7, 3) := by decide +kernel
theorem dX8_fill_140 : decode cX8_fill 140 = .ok (.bipush 22, 2) := by decide +kernel
theorem dX8_fill_142 : decode cX8_fill 142 = .ok (.iconst 2, 1) := by decide +kernel
theorem dX8_fill_143 : decode cX8_fill 143 = .ok (.aload_n 0, 1) := by decide +kernel
theorem dX8_fill_144 : decode cX8_fill 144 = .ok (.getfield 7, 3) := by decide +kernel
theorem dX8_fill_147 : decode cX8_fill 147 = .ok (.bipush 21, 2) := by decide +kernel
theorem dX8_fill_149 : decode cX8_fill 149 = .ok (.iaload, 1) := by decide +kernel
theorem dX8_fill_150 : decode cX8_fill 150 = .ok (.imul, 1) := by decide +kernel
theorem dX8_fill_151 : decode cX8_fill 151 = .ok (.iadd, 1) := by decide +kernel
theorem dX8_fill_152 : decode cX8_fill 152 = .ok (.iconst 1, 1) := by decide +kernel
theorem dX8_fill_153 : decode cX8_fill 153 = .ok (.iadd, 1) := by decide +kernel
theorem dX8_fill_154 : decode cX8_fill 154 = .ok (.iload_n 2, 1) := by decide +kernel
theorem dX8_fill_155 : decode cX8_fill 155 = .ok (.iastore, 1) := by decide +kernel
theorem dX8_fill_156 : decode cX8_fill 156 = .ok (.aload_n 0, 1) := by decide +kernel
theorem dX8_fill_157 : decode cX8_fill 157 = .ok (.getfield 7, 3) := by decide +kernel
theorem dX8_fill_160 : decode cX8_fill 160 = .ok (.bipush 21, 2) := by decide +kernel
theorem dX8_fill_162 : decode cX8_fill 162 = .ok (.dup2, 1) := by decide +kernel
theorem dX8_fill_163 : decode cX8_fill 163 = .ok (.iaload, 1) := by decide +kernel
theorem dX8_fill_164 : decode cX8_fill 164 = .ok (.iconst 1, 1) := by decide +kernel
theorem dX8_fill_165 : decode cX8_fill 165 = .ok (.iadd, 1) := by decide +kernel
theorem dX8_fill_166 : decode cX8_fill 166 = .ok (.iastore, 1) := by decide +kernel
theorem dX8_fill_167 : decode cX8_fill 167 = .ok (.aload_n 0, 1) := by decide +kernel
theorem dX8_fill_168 : decode cX8_fill 168 = .ok (.getfield 7, 3) := by decide +kernel
theorem dX8_fill_171 : decode cX8_fill 171 = .ok (.iconst 1, 1) := by decide +kernel
theorem dX8_fill_172 : decode cX8_fill 172 = .ok (.dup2, 1) := by decide +kernel
theorem dX8_fill_173 : decode cX8_fill 173 = .ok (.iaload, 1) := by decide +kernel
theorem dX8_fill_174 : decode cX8_fill 174 = .ok (.iload_n 2, 1) := by decide +kernel
theorem dX8_fill_175 : decode cX8_fill 175 = .ok (.iadd, 1) := by decide +kernel
theorem dX8_fill_176 : decode cX8_fill 176 = .ok (.iastore, 1) := by decide +kernel
theorem dX8_fill_177 : decode cX8_fill 177 = .ok (.aload_n 0, 1) := by decide +kernel
theorem dX8_fill_178 : decode cX8_fill 178 = .ok (.invokevirtual 65, 3) := by decide +kernel
theorem dX8_fill_181 : decode cX8_fill 181 = .ok (.ireturn, 1) := by decide +kernel
set_option maxRecDepth 20000 in
theorem ggX8_comes_X8_gap : GoodIn wsX8_comes wsX8_gap := goodIn_r _ [6, 7, 8, 9, 5, 10, 1, 11, 12, 13, 14, 15, 16, 17, 18, 19, 20, 21, 22, 23, 24, 25, 26, 27, 28] (by decide +kernel) (by decide +kernel)
set_option maxRecDepth 20000 in
theorem gX8_comes_X8_gap : GoodIn wsX8_comes (wsV RX8 73 RX8 yX8_gap wsX8_gap) := goodIn_app (goodIn_of _ (by decide +kernel)) ggX8_comes_X8_gap
theorem dX8_comes_0 : decode cX8_comes 0 = .ok (.iload_n 2, 1) := by decide +kernel
theorem dX8_comes_1 : decode cX8_comes 1 = .ok (.istore_n 3, 1) := by decide +kernel
theorem dX8_comes_2 : decode cX8_comes 2 = .ok (.aload_n 0, 1) := by decide +kernel
theorem dX8_comes_3 : decode cX8_comes 3 = .ok (.iload_n 1, 1) := by decide +kernel
theorem dX8_comes_4 : decode cX8_comes 4 = .ok (.invokevirtual 73, 3) := by decide +kernel
theorem dX8_comes_7 : decode cX8_comes 7 = .ok (.istore 4, 2) := by decide +kernel
theorem dX8_comes_9 : decode cX8_comes 9 = .ok (.iload_n 3, 1) := by decide +kernel
theorem dX8_comes_10 : decode cX8_comes 10 = .ok (.ifCond .le 166, 3) := by decide +kernel
theorem dX8_comes_13 : decode cX8_comes 13 = .ok (.aload_n 0, 1) := by decide +kernel
theorem dX8_comes_14 : decode cX8_comes 14 = .ok (.getfield 7, 3) := by decide +kernel
theorem dX8_comes_17 : decode cX8_comes 17 = .ok (.bipush 23, 2) := by decide +kernel
theorem dX8_comes_19 : decode cX8_comes 19 = .ok (.iaload, 1) := by decide +kernel
theorem dX8_comes_20 : decode cX8_comes 20 = .ok (.iload_n 3, 1) := by decide +kernel
theorem dX8_comes_21 : decode cX8_comes 21 = .ok (.if_icmp .ge 13, 3) := by decide +kernel
theorem dX8_comes_24 : decode cX8_comes 24 = .ok (.aload_n 0, 1) := by decide +kernel
theorem dX8_comes_25 : decode cX8_comes 25 = .ok (.getfield 7, 3) := by decide +kernel
theorem dX8_comes_28 : decode cX8_comes 28 = .ok (.bipush 23, 2) := by decide +kernel
theorem dX8_comes_30 : decode cX8_comes 30 = .ok (.iaload, 1) := by decide +kernel
theorem dX8_comes_31 : decode cX8_comes 31 = .ok (.goto 4, 3) := by decide +kernel
theorem dX8_comes_34 : decode cX8_comes 34 = .ok (.iload_n 3, 1) := by decide +kernel
theorem dX8_comes_35 : decode cX8_comes 35 = .ok (.istore 5, 2) := by decide +kernel
theorem dX8_comes_37 : decode cX8_comes 37 = .ok (.aload_n 0, 1) := by decide +kernel
theorem dX8_comes_38 : decode cX8_comes 38 = .ok (.getfield 7, 3) := by decide +kernel
theorem dX8_comes_41 : decode cX8_comes 41 = .ok (.bipush 35, 2) := by decide +kernel
theorem dX8_comes_43 : decode cX8_comes 43 = .ok (.aload_n 0, 1) := by decide +kernel
theorem dX8_comes_44 : decode cX8_comes 44 = .ok (.getfield 7, 3) := by decide +kernel
theorem dX8_comes_47 : decode cX8_comes 47 = .ok (.bipush 34, 2) := by decide +kernel
theorem dX8_comes_49 : decode cX8_comes 49 = .ok (.iaload, 1) := by decide +kernel
theorem dX8_comes_50 : decode cX8_comes 50 = .ok (.iadd, 1) := by decide +kernel
theorem dX8_comes_51 : decode cX8_comes 51 = .ok (.iload 5, 2) := by decide +kernel
theorem dX8_comes_53 : decode cX8_comes 53 = .ok (.sipush 512, 3) := by decide +kernel
theorem dX8_comes_56 : decode cX8_comes 56 = .ok (.aload_n 0, 1) := by decide +kernel
theorem dX8_comes_57 : decode cX8_comes 57 = .ok (.getfield 7, 3) := by decide +kernel
theorem dX8_comes_60 : decode cX8_comes 60 = .ok (.bipush 22, 2) := by decide +kernel
theorem dX8_comes_62 : decode cX8_comes 62 = .ok (.iaload, 1) := by decide +kernel
theorem dX8_comes_63 : decode cX8_comes 63 = .ok (.imul, 1) := by decide +kernel
theorem dX8_comes_64 : decode cX8_comes 64 = .ok (.iadd, 1) := by decide +kernel
theorem dX8_comes_65 : decode cX8_comes 65 = .ok (.sipush 1024, 3) := by decide +kernel
theorem dX8_comes_68 : decode cX8_comes 68 = .ok (.iload_n 1, 1) := by decide +kernel
theorem dX8_comes_69 : decode cX8_comes 69 = .ok (.imul, 1) := by decide +kernel
theorem dX8_comes_70 : decode cX8_comes 70 = .ok (.iadd, 1) := by decide +kernel
theorem dX8_comes_71 : decode cX8_comes 71 = .ok (.sipush 2048, 3) := by decide +kernel
theorem dX8_comes_74 : decode cX8_comes 74 = .ok (.iload 4, 2) := by decide +kernel
theorem dX8_comes_76 : decode cX8_comes 76 = .ok (.imul, 1) := by decide +kernel
theorem dX8_comes_77 : decode cX8_comes 77 = .ok (.iadd, 1) := by decide +kernel
theorem dX8_comes_78 : decode cX8_comes 78 = .ok (.iastore, 1) := by decide +kernel
theorem dX8_comes_79 : decode cX8_comes 79 = .ok (.aload_n 0, 1) := by decide +kernel
theorem dX8_comes_80 : decode cX8_comes 80 = .ok (.getfield 7, 3) := by decide +kernel
theorem dX8_comes_83 : decode cX8_comes 83 = .ok (.bipush 34, 2) := by decide +kernel
theorem dX8_comes_85 : decode cX8_comes 85 = .ok (.dup2, 1) := by decide +kernel
theorem dX8_comes_86 : decode cX8_comes 86 = .ok (.iaload, 1) := by decide +kernel
theorem dX8_comes_87 : decode cX8_comes 87 = .ok (.iconst 1, 1) := by decide +kernel
theorem dX8_comes_88 : decode cX8_comes 88 = .ok (.iadd, 1) := by decide +kernel
theorem dX8_comes_89 : decode cX8_comes 89 = .ok (.iastore, 1) := by decide +kernel
theorem dX8_comes_90 : decode cX8_comes 90 = .ok (.aload_n 0, 1) := by decide +kernel
theorem dX8_comes_91 : decode cX8_comes 91 = .ok (.getfield 7, 3) := by decide +kernel
theorem dX8_comes_94 : decode cX8_comes 94 = .ok (.bipush 23, 2) := by decide +kernel
theorem dX8_comes_96 : decode cX8_comes 96 = .ok (.dup2, 1) := by decide +kernel
theorem dX8_comes_97 : decode cX8_comes 97 = .ok (.iaload, 1) := by decide +kernel
theorem dX8_comes_98 : decode cX8_comes 98 = .ok (.iload 5, 2) := by decide +kernel
theorem dX8_comes_100 : decode cX8_comes 100 = .ok (.isub, 1) := by decide +kernel
theorem dX8_comes_101 : decode cX8_comes 101 = .ok (.iastore, 1) := by decide +kernel
theorem dX8_comes_102 : decode cX8_comes 102 = .ok (.iload_n 3, 1) := by decide +kernel
theorem dX8_comes_103 : decode cX8_comes 103 = .ok (.iload 5, 2) := by decide +kernel
theorem dX8_comes_105 : decode cX8_comes 105 = .ok (.isub, 1) := by decide +kernel
theorem dX8_comes_106 : decode cX8_comes 106 = .ok (.istore_n 3, 1) := by decide +kernel
theorem dX8_comes_107 : decode cX8_comes 107 = .ok (.aload_n 0, 1) := by decide +kernel
theorem dX8_comes_108 : decode cX8_comes 108 = .ok (.getfield 7, 3) := by decide +kernel
theorem dX8_comes_111 : decode cX8_comes 111 = .ok (.bipush 23, 2) := by decide +kernel
theorem dX8_comes_113 : decode cX8_comes 113 = .ok (.iaload, 1) := by decide +kernel
theorem dX8_comes_114 : decode cX8_comes 114 = .ok (.ifCond .ne 59, 3) := by decide +kernel
theorem dX8_comes_117 : decode cX8_comes 117 = .ok (.aload_n 0, 1) := by decide +kernel
theorem dX8_comes_118 : decode cX8_comes 118 = .ok (.getfield 7, 3) := by decide +kernel
theorem dX8_comes_121 : decode cX8_comes 121 = .ok (.bipush 21, 2) := by decide +kernel
theorem dX8_comes_123 : decode cX8_comes 123 = .ok (.dup2, 1) := by decide +kernel
theorem dX8_comes_124 : decode cX8_comes 124 = .ok (.iaload, 1) := by decide +kernel
theorem dX8_comes_125 : decode cX8_comes 125 = .ok (.iconst 1, 1) := by decide +kernel
theorem dX8_comes_126 : decode cX8_comes 126 = .ok (.isub, 1) := by decide +kernel
theorem dX8_comes_127 : decode cX8_comes 127 = .ok (.iastore, 1) := by decide +kernel
theorem dX8_comes_128 : decode cX8_comes 128 = .ok (.iconst 0, 1) := by decide +kernel
theorem dX8_comes_129 : decode cX8_comes 129 = .ok (.istore 6, 2) := by decide +kernel
theorem dX8_comes_131 : decode cX8_comes 131 = .ok (.iload 6, 2) := by decide +kernel
theorem dX8_comes_133 : decode cX8_comes 133 = .ok (.iconst 2, 1) := by decide +kernel
theorem dX8_comes_134 : decode cX8_comes 134 = .ok (.aload_n 0, 1) := by decide +kernel
theorem dX8_comes_135 : decode cX8_comes 135 = .ok (.getfield 7, 3) := by decide +kernel
theorem dX8_comes_138 : decode cX8_comes 138 = .ok (.bipush 21, 2) := by decide +kernel
theorem dX8_comes_140 : decode cX8_comes 140 = .ok (.iaload, 1) := by decide +kernel
theorem dX8_comes_141 : decode cX8_comes 141 = .ok (.imul, 1) := by decide +kernel
theorem dX8_comes_142 : decode cX8_comes 142 = .ok (.if_icmp .ge 31, 3) := by decide +kernel
theorem dX8_comes_145 : decode cX8_comes 145 = .ok (.aload_n 0, 1) := by decide +kernel
theorem dX8_comes_146 : decode cX8_comes 146 = .ok (.getfield 7, 3) := by decide +kernel
theorem dX8_comes_149 : decode cX8_comes 149 = .ok (.bipush 22, 2) := by decide +kernel
theorem dX8_comes_151 : decode cX8_comes 151 = .ok (.iload 6, 2) := by decide +kernel
theorem dX8_comes_153 : decode cX8_comes 153 = .ok (.iadd, 1) := by decide +kernel
theorem dX8_comes_154 : decode cX8_comes 154 = .ok (.aload_n 0, 1) := by decide +kernel
theorem dX8_comes_155 : decode cX8_comes 155 = .ok (.getfield 7, 3) := by decide +kernel
theorem dX8_comes_158 : decode cX8_comes 158 = .ok (.bipush 22, 2) := by decide +kernel
theorem dX8_comes_160 : decode cX8_comes 160 = .ok (.iload 6, 2) := by decide +kernel
theorem dX8_comes_162 : decode cX8_comes 162 = .ok (.iadd, 1) := by decide +kernel
theorem dX8_comes_163 : decode cX8_comes 163 = .ok (.iconst 2, 1) := by decide +kernel
theorem dX8_comes_164 : decode cX8_comes 164 = .ok (.iadd, 1) := by decide +kernel
theorem dX8_comes_165 : decode cX8_comes 165 = .ok (.iaload, 1) := by decide +kernel
theorem dX8_comes_166 : decode cX8_comes 166 = .ok (.iastore, 1) := by decide +kernel
theorem dX8_comes_167 : decode cX8_comes 167 = .ok (.iinc 6 1, 3) := by decide +kernel
theorem dX8_comes_170 : decode cX8_comes 170 = .ok (.goto (-39), 3) := by decide +kernel
theorem dX8_comes_173 : decode cX8_comes 173 = .ok (.goto (-164), 3) := by decide +kernel
theorem dX8_comes_176 : decode cX8_comes 176 = .ok (.return_, 1) := by decide +kernel
set_option maxRecDepth 20000 in
theorem ggX8_overflows_X8_amounts : GoodIn wsX8_overflows wsX8_amounts := goodIn_r _ [6, 1, 7, 8, 5, 9, 10, 11, 12, 13, 14, 15, 16, 17, 18, 19, 20, 21, 22, 23, 24] (by decide +kernel) (by decide +kernel)
set_option maxRecDepth 20000 in
theorem gX8_overflows_X8_amounts : GoodIn wsX8_overflows (wsV RX8 76 RX8 yX8_amounts wsX8_amounts) := goodIn_app (goodIn_of _ (by decide +kernel)) ggX8_overflows_X8_amounts
set_option maxRecDepth 20000 in
theorem ggX8_overflows_X8_amountOf : GoodIn wsX8_overflows wsX8_amountOf := goodIn_r _ [9] (by decide +kernel) (by decide +kernel)
set_option maxRecDepth 20000 in
theorem gX8_overflows_X8_amountOf : GoodIn wsX8_overflows (va_wsS RX8 47 yX8_amountOf wsX8_amountOf) := goodIn_app (goodIn_of _ (by decide +kernel)) ggX8_overflows_X8_amountOf
theorem dX8_overflows_0 : decode cX8_overflows 0 = .ok (.aload_n 0, 1) := by decide +kernel
theorem dX8_overflows_1 : decode cX8_overflows 1 = .ok (.bipush 34, 2) := by decide +kernel
theorem dX8_overflows_3 : decode cX8_overflows 3 = .ok (.bipush 35, 2) := by decide +kernel
theorem dX8_overflows_5 : decode cX8_overflows 5 = .ok (.invokevirtual 76, 3) := by decide +kernel
theorem dX8_overflows_8 : decode cX8_overflows 8 = .ok (.aload_n 0, 1) := by decide +kernel
theorem dX8_overflows_9 : decode cX8_overflows 9 = .ok (.getfield 7, 3) := by decide +kernel
theorem dX8_overflows_12 : decode cX8_overflows 12 = .ok (.bipush 9, 2) := by decide +kernel
theorem dX8_overflows_14 : decode cX8_overflows 14 = .ok (.iaload, 1) := by decide +kernel
theorem dX8_overflows_15 : decode cX8_overflows 15 = .ok (.isub, 1) := by decide +kernel
theorem dX8_overflows_16 : decode cX8_overflows 16 = .ok (.istore_n 1, 1) := by decide +kernel
theorem dX8_overflows_17 : decode cX8_overflows 17 = .ok (.iload_n 1, 1) := by decide +kernel
theorem dX8_overflows_18 : decode cX8_overflows 18 = .ok (.ifCond .le 150, 3) := by decide +kernel
theorem dX8_overflows_21 : decode cX8_overflows 21 = .ok (.aload_n 0, 1) := by decide +kernel
theorem dX8_overflows_22 : decode cX8_overflows 22 = .ok (.getfield 7, 3) := by decide +kernel
theorem dX8_overflows_25 : decode cX8_overflows 25 = .ok (.bipush 35, 2) := by decide +kernel
theorem dX8_overflows_27 : decode cX8_overflows 27 = .ok (.iaload, 1) := by decide +kernel
theorem dX8_overflows_28 : decode cX8_overflows 28 = .ok (.istore_n 2, 1) := by decide +kernel
theorem dX8_overflows_29 : decode cX8_overflows 29 = .ok (.iload_n 2, 1) := by decide +kernel
theorem dX8_overflows_30 : decode cX8_overflows 30 = .ok (.invokestatic 47, 3) := by decide +kernel
theorem dX8_overflows_33 : decode cX8_overflows 33 = .ok (.iload_n 1, 1) := by decide +kernel
theorem dX8_overflows_34 : decode cX8_overflows 34 = .ok (.if_icmp .ge 10, 3) := by decide +kernel
theorem dX8_overflows_37 : decode cX8_overflows 37 = .ok (.iload_n 2, 1) := by decide +kernel
theorem dX8_overflows_38 : decode cX8_overflows 38 = .ok (.invokestatic 47, 3) := by decide +kernel
theorem dX8_overflows_41 : decode cX8_overflows 41 = .ok (.goto 4, 3) := by decide +kernel
theorem dX8_overflows_44 : decode cX8_overflows 44 = .ok (.iload_n 1, 1) := by decide +kernel
theorem dX8_overflows_45 : decode cX8_overflows 45 = .ok (.istore_n 3, 1) := by decide +kernel
theorem dX8_overflows_46 : decode cX8_overflows 46 = .ok (.aload_n 0, 1) := by decide +kernel
theorem dX8_overflows_47 : decode cX8_overflows 47 = .ok (.getfield 7, 3) := by decide +kernel
theorem dX8_overflows_50 : decode cX8_overflows 50 = .ok (.sipush 146, 3) := by decide +kernel
theorem dX8_overflows_53 : decode cX8_overflows 53 = .ok (.aload_n 0, 1) := by decide +kernel
theorem dX8_overflows_54 : decode cX8_overflows 54 = .ok (.getfield 7, 3) := by decide +kernel
theorem dX8_overflows_57 : decode cX8_overflows 57 = .ok (.sipush 145, 3) := by decide +kernel
theorem dX8_overflows_60 : decode cX8_overflows 60 = .ok (.iaload, 1) := by decide +kernel
theorem dX8_overflows_61 : decode cX8_overflows 61 = .ok (.iadd, 1) := by decide +kernel
theorem dX8_overflows_62 : decode cX8_overflows 62 = .ok (.iload_n 2, 1) := by decide +kernel
theorem dX8_overflows_63 : decode cX8_overflows 63 = .ok (.iload_n 2, 1) := by decide +kernel
theorem dX8_overflows_64 : decode cX8_overflows 64 = .ok (.invokestatic 47, 3) := by decide +kernel
theorem dX8_overflows_67 : decode cX8_overflows 67 = .ok (.isub, 1) := by decide +kernel
theorem dX8_overflows_68 : decode cX8_overflows 68 = .ok (.iload_n 3, 1) := by decide +kernel
theorem dX8_overflows_69 : decode cX8_overflows 69 = .ok (.iadd, 1) := by decide +kernel
theorem dX8_overflows_70 : decode cX8_overflows 70 = .ok (.iastore, 1) := by decide +kernel
theorem dX8_overflows_71 : decode cX8_overflows 71 = .ok (.aload_n 0, 1) := by decide +kernel
theorem dX8_overflows_72 : decode cX8_overflows 72 = .ok (.getfield 7, 3) := by decide +kernel
theorem dX8_overflows_75 : decode cX8_overflows 75 = .ok (.sipush 145, 3) := by decide +kernel
theorem dX8_overflows_78 : decode cX8_overflows 78 = .ok (.dup2, 1) := by decide +kernel
theorem dX8_overflows_79 : decode cX8_overflows 79 = .ok (.iaload, 1) := by decide +kernel
theorem dX8_overflows_80 : decode cX8_overflows 80 = .ok (.iconst 1, 1) := by decide +kernel
theorem dX8_overflows_81 : decode cX8_overflows 81 = .ok (.iadd, 1) := by decide +kernel
theorem dX8_overflows_82 : decode cX8_overflows 82 = .ok (.iastore, 1) := by decide +kernel
theorem dX8_overflows_83 : decode cX8_overflows 83 = .ok (.aload_n 0, 1) := by decide +kernel
theorem dX8_overflows_84 : decode cX8_overflows 84 = .ok (.getfield 7, 3) := by decide +kernel
theorem dX8_overflows_87 : decode cX8_overflows 87 = .ok (.bipush 35, 2) := by decide +kernel
theorem dX8_overflows_89 : decode cX8_overflows 89 = .ok (.dup2, 1) := by decide +kernel
theorem dX8_overflows_90 : decode cX8_overflows 90 = .ok (.iaload, 1) := by decide +kernel
theorem dX8_overflows_91 : decode cX8_overflows 91 = .ok (.iload_n 3, 1) := by decide +kernel
theorem dX8_overflows_92 : decode cX8_overflows 92 = .ok (.isub, 1) := by decide +kernel
theorem dX8_overflows_93 : decode cX8_overflows 93 = .ok (.iastore, 1) := by decide +kernel
theorem dX8_overflows_94 : decode cX8_overflows 94 = .ok (.iload_n 1, 1) := by decide +kernel
theorem dX8_overflows_95 : decode cX8_overflows 95 = .ok (.iload_n 3, 1) := by decide +kernel
theorem dX8_overflows_96 : decode cX8_overflows 96 = .ok (.isub, 1) := by decide +kernel
theorem dX8_overflows_97 : decode cX8_overflows 97 = .ok (.istore_n 1, 1) := by decide +kernel
theorem dX8_overflows_98 : decode cX8_overflows 98 = .ok (.aload_n 0, 1) := by decide +kernel
theorem dX8_overflows_99 : decode cX8_overflows 99 = .ok (.getfield 7, 3) := by decide +kernel
theorem dX8_overflows_102 : decode cX8_overflows 102 = .ok (.bipush 35, 2) := by decide +kernel
theorem dX8_overflows_104 : decode cX8_overflows 104 = .ok (.iaload, 1) := by decide +kernel
theorem dX8_overflows_105 : decode cX8_overflows 105 = .ok (.invokestatic 47, 3) := by decide +kernel
theorem dX8_overflows_108 : decode cX8_overflows 108 = .ok (.ifCond .ne 57, 3) := by decide +kernel
theorem dX8_overflows_111 : decode cX8_overflows 111 = .ok (.aload_n 0, 1) := by decide +kernel
theorem dX8_overflows_112 : decode cX8_overflows 112 = .ok (.getfield 7, 3) := by decide +kernel
theorem dX8_overflows_115 : decode cX8_overflows 115 = .ok (.bipush 34, 2) := by decide +kernel
theorem dX8_overflows_117 : decode cX8_overflows 117 = .ok (.dup2, 1) := by decide +kernel
theorem dX8_overflows_118 : decode cX8_overflows 118 = .ok (.iaload, 1) := by decide +kernel
theorem dX8_overflows_119 : decode cX8_overflows 119 = .ok (.iconst 1, 1) := by decide +kernel
theorem dX8_overflows_120 : decode cX8_overflows 120 = .ok (.isub, 1) := by decide +kernel
theorem dX8_overflows_121 : decode cX8_overflows 121 = .ok (.iastore, 1) := by decide +kernel
theorem dX8_overflows_122 : decode cX8_overflows 122 = .ok (.iconst 0, 1) := by decide +kernel
theorem dX8_overflows_123 : decode cX8_overflows 123 = .ok (.istore 4, 2) := by decide +kernel
theorem dX8_overflows_125 : decode cX8_overflows 125 = .ok (.iload 4, 2) := by decide +kernel
theorem dX8_overflows_127 : decode cX8_overflows 127 = .ok (.aload_n 0, 1) := by decide +kernel
theorem dX8_overflows_128 : decode cX8_overflows 128 = .ok (.getfield 7, 3) := by decide +kernel
theorem dX8_overflows_131 : decode cX8_overflows 131 = .ok (.bipush 34, 2) := by decide +kernel
theorem dX8_overflows_133 : decode cX8_overflows 133 = .ok (.iaload, 1) := by decide +kernel
theorem dX8_overflows_134 : decode cX8_overflows 134 = .ok (.if_icmp .ge 31, 3) := by decide +kernel
theorem dX8_overflows_137 : decode cX8_overflows 137 = .ok (.aload_n 0, 1) := by decide +kernel
theorem dX8_overflows_138 : decode cX8_overflows 138 = .ok (.getfield 7, 3) := by decide +kernel
theorem dX8_overflows_141 : decode cX8_overflows 141 = .ok (.bipush 35, 2) := by decide +kernel
theorem dX8_overflows_143 : decode cX8_overflows 143 = .ok (.iload 4, 2) := by decide +kernel
theorem dX8_overflows_145 : decode cX8_overflows 145 = .ok (.iadd, 1) := by decide +kernel
theorem dX8_overflows_146 : decode cX8_overflows 146 = .ok (.aload_n 0, 1) := by decide +kernel
theorem dX8_overflows_147 : decode cX8_overflows 147 = .ok (.getfield 7, 3) := by decide +kernel
theorem dX8_overflows_150 : decode cX8_overflows 150 = .ok (.bipush 35, 2) := by decide +kernel
theorem dX8_overflows_152 : decode cX8_overflows 152 = .ok (.iload 4, 2) := by decide +kernel
theorem dX8_overflows_154 : decode cX8_overflows 154 = .ok (.iadd, 1) := by decide +kernel
theorem dX8_overflows_155 : decode cX8_overflows 155 = .ok (.iconst 1, 1) := by decide +kernel
theorem dX8_overflows_156 : decode cX8_overflows 156 = .ok (.iadd, 1) := by decide +kernel
theorem dX8_overflows_157 : decode cX8_overflows 157 = .ok (.iaload, 1) := by decide +kernel
theorem dX8_overflows_158 : decode cX8_overflows 158 = .ok (.iastore, 1) := by decide +kernel
theorem dX8_overflows_159 : decode cX8_overflows 159 = .ok (.iinc 4 1, 3) := by decide +kernel
theorem dX8_overflows_162 : decode cX8_overflows 162 = .ok (.goto (-37), 3) := by decide +kernel
theorem dX8_overflows_165 : decode cX8_overflows 165 = .ok (.goto (-148), 3) := by decide +kernel
theorem dX8_overflows_168 : decode cX8_overflows 168 = .ok (.return_, 1) := by decide +kernel
set_option maxRecDepth 20000 in
theorem ggX8_couldGrind_X8_isOne : GoodIn wsX8_couldGrind wsX8_isOne := goodIn_r _ [8, 9, 10, 7, 11] (by decide +kernel) (by decide +kernel)
set_option maxRecDepth 20000 in
theorem gX8_couldGrind_X8_isOne : GoodIn wsX8_couldGrind (va_wsS RX8 60 yX8_isOne wsX8_isOne) := goodIn_app (goodIn_of _ (by decide +kernel)) ggX8_couldGrind_X8_isOne
set_option maxRecDepth 20000 in
theorem ggX8_couldGrind_X8_in : GoodIn wsX8_couldGrind wsX8_in := goodIn_r _ [11] (by decide +kernel) (by decide +kernel)
set_option maxRecDepth 20000 in
theorem gX8_couldGrind_X8_in : GoodIn wsX8_couldGrind (va_wsS RX8 28 yX8_in wsX8_in) := goodIn_app (goodIn_of _ (by decide +kernel)) ggX8_couldGrind_X8_in
set_option maxRecDepth 20000 in
theorem ggX8_couldGrind_X8_hopper : GoodIn wsX8_couldGrind wsX8_hopper := goodIn_r _ [15, 3, 23, 24, 25, 26, 27, 28, 29, 30, 31, 32, 33, 34, 35, 36, 37] (by decide +kernel) (by decide +kernel)
set_option maxRecDepth 20000 in
theorem gX8_couldGrind_X8_hopper : GoodIn wsX8_couldGrind (wsV RX8 65 RX8 yX8_hopper wsX8_hopper) := goodIn_app (goodIn_of _ (by decide +kernel)) ggX8_couldGrind_X8_hopper
set_option maxRecDepth 20000 in
theorem ggX8_couldGrind_X8_amounts : GoodIn wsX8_couldGrind wsX8_amounts := goodIn_r _ [19, 3, 20, 21, 7, 22, 23, 24, 25, 26, 27, 28, 29, 30, 31, 32, 33, 34, 35, 36, 37] (by decide +kernel) (by decide +kernel)
set_option maxRecDepth 20000 in
theorem gX8_couldGrind_X8_amounts : GoodIn wsX8_couldGrind (wsV RX8 76 RX8 yX8_amounts wsX8_amounts) := goodIn_app (goodIn_of _ (by decide +kernel)) ggX8_couldGrind_X8_amounts
theorem dX8_couldGrind_0 : decode cX8_couldGrind 0 = .ok (.iload_n 1, 1) := by decide +kernel
theorem dX8_couldGrind_1 : decode cX8_couldGrind 1 = .ok (.invokestatic 60, 3) := by decide +kernel
theorem dX8_couldGrind_4 : decode cX8_couldGrind 4 = .ok (.ifCond .eq 14, 3) := by decide +kernel
theorem dX8_couldGrind_7 : decode cX8_couldGrind 7 = .ok (.iload_n 2, 1) := by decide +kernel
theorem dX8_couldGrind_8 : decode cX8_couldGrind 8 = .ok (.iconst 1, 1) := by decide +kernel
theorem dX8_couldGrind_9 : decode cX8_couldGrind 9 = .ok (.sipush 400, 3) := by decide +kernel
theorem dX8_couldGrind_12 : decode cX8_couldGrind 12 = .ok (.invokestatic 28, 3) := by decide +kernel
theorem dX8_couldGrind_15 : decode cX8_couldGrind 15 = .ok (.ifCond .ne 6, 3) := by decide +kernel
theorem dX8_couldGrind_18 : decode cX8_couldGrind 18 = .ok (.ldc 64, 2) := by decide +kernel
theorem dX8_couldGrind_20 : decode cX8_couldGrind 20 = .ok (.ireturn, 1) := by decide +kernel
theorem dX8_couldGrind_21 : decode cX8_couldGrind 21 = .ok (.aload_n 0, 1) := by decide +kernel
theorem dX8_couldGrind_22 : decode cX8_couldGrind 22 = .ok (.invokevirtual 65, 3) := by decide +kernel
theorem dX8_couldGrind_25 : decode cX8_couldGrind 25 = .ok (.iload_n 2, 1) := by decide +kernel
theorem dX8_couldGrind_26 : decode cX8_couldGrind 26 = .ok (.if_icmp .ge 6, 3) := by decide +kernel
theorem dX8_couldGrind_29 : decode cX8_couldGrind 29 = .ok (.ldc 79, 2) := by decide +kernel
theorem dX8_couldGrind_31 : decode cX8_couldGrind 31 = .ok (.ireturn, 1) := by decide +kernel
theorem dX8_couldGrind_32 : decode cX8_couldGrind 32 = .ok (.aload_n 0, 1) := by decide +kernel
theorem dX8_couldGrind_33 : decode cX8_couldGrind 33 = .ok (.bipush 34, 2) := by decide +kernel
theorem dX8_couldGrind_35 : decode cX8_couldGrind 35 = .ok (.bipush 35, 2) := by decide +kernel
theorem dX8_couldGrind_37 : decode cX8_couldGrind 37 = .ok (.invokevirtual 76, 3) := by decide +kernel
theorem dX8_couldGrind_40 : decode cX8_couldGrind 40 = .ok (.iload_n 2, 1) := by decide +kernel
theorem dX8_couldGrind_41 : decode cX8_couldGrind 41 = .ok (.iadd, 1) := by decide +kernel
theorem dX8_couldGrind_42 : decode cX8_couldGrind 42 = .ok (.aload_n 0, 1) := by decide +kernel
theorem dX8_couldGrind_43 : decode cX8_couldGrind 43 = .ok (.getfield 7, 3) := by decide +kernel
theorem dX8_couldGrind_46 : decode cX8_couldGrind 46 = .ok (.bipush 9, 2) := by decide +kernel
theorem dX8_couldGrind_48 : decode cX8_couldGrind 48 = .ok (.iaload, 1) := by decide +kernel
theorem dX8_couldGrind_49 : decode cX8_couldGrind 49 = .ok (.isub, 1) := by decide +kernel
theorem dX8_couldGrind_50 : decode cX8_couldGrind 50 = .ok (.istore_n 3, 1) := by decide +kernel
theorem dX8_couldGrind_51 : decode cX8_couldGrind 51 = .ok (.iload_n 3, 1) := by decide +kernel
theorem dX8_couldGrind_52 : decode cX8_couldGrind 52 = .ok (.ifCond .ge 7, 3) := by decide +kernel
theorem dX8_couldGrind_55 : decode cX8_couldGrind 55 = .ok (.iconst 0, 1) := by decide +kernel
theorem dX8_couldGrind_56 : decode cX8_couldGrind 56 = .ok (.goto 4, 3) := by decide +kernel
theorem dX8_couldGrind_59 : decode cX8_couldGrind 59 = .ok (.iload_n 3, 1) := by decide +kernel
theorem dX8_couldGrind_60 : decode cX8_couldGrind 60 = .ok (.istore_n 3, 1) := by decide +kernel
theorem dX8_couldGrind_61 : decode cX8_couldGrind 61 = .ok (.aload_n 0, 1) := by decide +kernel
theorem dX8_couldGrind_62 : decode cX8_couldGrind 62 = .ok (.sipush 145, 3) := by decide +kernel
theorem dX8_couldGrind_65 : decode cX8_couldGrind 65 = .ok (.sipush 146, 3) := by decide +kernel
theorem dX8_couldGrind_68 : decode cX8_couldGrind 68 = .ok (.invokevirtual 76, 3) := by decide +kernel
theorem dX8_couldGrind_71 : decode cX8_couldGrind 71 = .ok (.iload_n 3, 1) := by decide +kernel
theorem dX8_couldGrind_72 : decode cX8_couldGrind 72 = .ok (.iadd, 1) := by decide +kernel
theorem dX8_couldGrind_73 : decode cX8_couldGrind 73 = .ok (.sipush 400, 3) := by decide +kernel
theorem dX8_couldGrind_76 : decode cX8_couldGrind 76 = .ok (.if_icmp .le 8, 3) := by decide +kernel
theorem dX8_couldGrind_79 : decode cX8_couldGrind 79 = .ok (.ldc 69, 2) := by decide +kernel
theorem dX8_couldGrind_81 : decode cX8_couldGrind 81 = .ok (.goto 4, 3) := by decide +kernel
theorem dX8_couldGrind_84 : decode cX8_couldGrind 84 = .ok (.iload_n 3, 1) := by decide +kernel
theorem dX8_couldGrind_85 : decode cX8_couldGrind 85 = .ok (.ireturn, 1) := by decide +kernel
set_option maxRecDepth 20000 in
theorem ggX8_grinds_X8_comes : GoodIn wsX8_grinds wsX8_comes := goodIn_r _ [6, 1, 7, 8, 9, 5, 10, 11, 12, 13, 14, 15, 16, 17, 29, 30, 31, 32, 33, 34, 35, 36, 37, 38, 39, 40, 41, 42, 43] (by decide +kernel) (by decide +kernel)
set_option maxRecDepth 20000 in
theorem gX8_grinds_X8_comes : GoodIn wsX8_grinds (wsV RX8 80 RX8 yX8_comes wsX8_comes) := goodIn_app (goodIn_of _ (by decide +kernel)) ggX8_grinds_X8_comes
set_option maxRecDepth 20000 in
theorem ggX8_grinds_X8_ofBurr : GoodIn wsX8_grinds wsX8_ofBurr := goodIn_r _ [14, 1, 29, 30, 31, 32, 33, 34, 35, 36, 37, 38, 39, 40, 41, 42, 43] (by decide +kernel) (by decide +kernel)
set_option maxRecDepth 20000 in
theorem gX8_grinds_X8_ofBurr : GoodIn wsX8_grinds (wsV RX8 50 RX8 yX8_ofBurr wsX8_ofBurr) := goodIn_app (goodIn_of _ (by decide +kernel)) ggX8_grinds_X8_ofBurr
set_option maxRecDepth 20000 in
theorem ggX8_grinds_X8_overflows : GoodIn wsX8_grinds wsX8_overflows := goodIn_r _ [21, 1, 22, 23, 24, 5, 25, 26, 27, 28, 29, 30, 31, 32, 33, 34, 35, 36, 37, 38, 39, 40, 41, 42, 43] (by decide +kernel) (by decide +kernel)
set_option maxRecDepth 20000 in
theorem gX8_grinds_X8_overflows : GoodIn wsX8_grinds (wsV RX8 84 RX8 yX8_overflows wsX8_overflows) := goodIn_app (goodIn_of _ (by decide +kernel)) ggX8_grinds_X8_overflows
theorem dX8_grinds_0 : decode cX8_grinds 0 = .ok (.aload_n 0, 1) := by decide +kernel
theorem dX8_grinds_1 : decode cX8_grinds 1 = .ok (.iload_n 1, 1) := by decide +kernel
theorem dX8_grinds_2 : decode cX8_grinds 2 = .ok (.iload_n 2, 1) := by decide +kernel
theorem dX8_grinds_3 : decode cX8_grinds 3 = .ok (.invokevirtual 80, 3) := by decide +kernel
theorem dX8_grinds_6 : decode cX8_grinds 6 = .ok (.aload_n 0, 1) := by decide +kernel
theorem dX8_grinds_7 : decode cX8_grinds 7 = .ok (.iload_n 1, 1) := by decide +kernel
theorem dX8_grinds_8 : decode cX8_grinds 8 = .ok (.iconst 1, 1) := by decide +kernel
theorem dX8_grinds_9 : decode cX8_grinds 9 = .ok (.invokevirtual 50, 3) := by decide +kernel
theorem dX8_grinds_12 : decode cX8_grinds 12 = .ok (.iload_n 2, 1) := by decide +kernel
theorem dX8_grinds_13 : decode cX8_grinds 13 = .ok (.iconst 4, 1) := by decide +kernel
theorem dX8_grinds_14 : decode cX8_grinds 14 = .ok (.idiv, 1) := by decide +kernel
theorem dX8_grinds_15 : decode cX8_grinds 15 = .ok (.iadd, 1) := by decide +kernel
theorem dX8_grinds_16 : decode cX8_grinds 16 = .ok (.istore_n 3, 1) := by decide +kernel
theorem dX8_grinds_17 : decode cX8_grinds 17 = .ok (.aload_n 0, 1) := by decide +kernel
theorem dX8_grinds_18 : decode cX8_grinds 18 = .ok (.getfield 7, 3) := by decide +kernel
theorem dX8_grinds_21 : decode cX8_grinds 21 = .ok (.bipush 13, 2) := by decide +kernel
theorem dX8_grinds_23 : decode cX8_grinds 23 = .ok (.iconst 4, 1) := by decide +kernel
theorem dX8_grinds_24 : decode cX8_grinds 24 = .ok (.iload_n 1, 1) := by decide +kernel
theorem dX8_grinds_25 : decode cX8_grinds 25 = .ok (.imul, 1) := by decide +kernel
theorem dX8_grinds_26 : decode cX8_grinds 26 = .ok (.iadd, 1) := by decide +kernel
theorem dX8_grinds_27 : decode cX8_grinds 27 = .ok (.iconst 1, 1) := by decide +kernel
theorem dX8_grinds_28 : decode cX8_grinds 28 = .ok (.iadd, 1) := by decide +kernel
theorem dX8_grinds_29 : decode cX8_grinds 29 = .ok (.iload_n 3, 1) := by decide +kernel
theorem dX8_grinds_30 : decode cX8_grinds 30 = .ok (.sipush 300, 3) := by decide +kernel
theorem dX8_grinds_33 : decode cX8_grinds 33 = .ok (.if_icmp .le 9, 3) := by decide +kernel
theorem dX8_grinds_36 : decode cX8_grinds 36 = .ok (.sipush 300, 3) := by decide +kernel
theorem dX8_grinds_39 : decode cX8_grinds 39 = .ok (.goto 4, 3) := by decide +kernel
theorem dX8_grinds_42 : decode cX8_grinds 42 = .ok (.iload_n 3, 1) := by decide +kernel
theorem dX8_grinds_43 : decode cX8_grinds 43 = .ok (.iastore, 1) := by decide +kernel
theorem dX8_grinds_44 : decode cX8_grinds 44 = .ok (.aload_n 0, 1) := by decide +kernel
theorem dX8_grinds_45 : decode cX8_grinds 45 = .ok (.getfield 7, 3) := by decide +kernel
theorem dX8_grinds_48 : decode cX8_grinds 48 = .ok (.bipush 13, 2) := by decide +kernel
theorem dX8_grinds_50 : decode cX8_grinds 50 = .ok (.iconst 4, 1) := by decide +kernel
theorem dX8_grinds_51 : decode cX8_grinds 51 = .ok (.iload_n 1, 1) := by decide +kernel
theorem dX8_grinds_52 : decode cX8_grinds 52 = .ok (.imul, 1) := by decide +kernel
theorem dX8_grinds_53 : decode cX8_grinds 53 = .ok (.iadd, 1) := by decide +kernel
theorem dX8_grinds_54 : decode cX8_grinds 54 = .ok (.iconst 2, 1) := by decide +kernel
theorem dX8_grinds_55 : decode cX8_grinds 55 = .ok (.iadd, 1) := by decide +kernel
theorem dX8_grinds_56 : decode cX8_grinds 56 = .ok (.dup2, 1) := by decide +kernel
theorem dX8_grinds_57 : decode cX8_grinds 57 = .ok (.iaload, 1) := by decide +kernel
theorem dX8_grinds_58 : decode cX8_grinds 58 = .ok (.iload_n 2, 1) := by decide +kernel
theorem dX8_grinds_59 : decode cX8_grinds 59 = .ok (.iadd, 1) := by decide +kernel
theorem dX8_grinds_60 : decode cX8_grinds 60 = .ok (.iastore, 1) := by decide +kernel
theorem dX8_grinds_61 : decode cX8_grinds 61 = .ok (.aload_n 0, 1) := by decide +kernel
theorem dX8_grinds_62 : decode cX8_grinds 62 = .ok (.getfield 7, 3) := by decide +kernel
theorem dX8_grinds_65 : decode cX8_grinds 65 = .ok (.iconst 2, 1) := by decide +kernel
theorem dX8_grinds_66 : decode cX8_grinds 66 = .ok (.dup2, 1) := by decide +kernel
theorem dX8_grinds_67 : decode cX8_grinds 67 = .ok (.iaload, 1) := by decide +kernel
theorem dX8_grinds_68 : decode cX8_grinds 68 = .ok (.iload_n 2, 1) := by decide +kernel
theorem dX8_grinds_69 : decode cX8_grinds 69 = .ok (.iadd, 1) := by decide +kernel
theorem dX8_grinds_70 : decode cX8_grinds 70 = .ok (.iastore, 1) := by decide +kernel
theorem dX8_grinds_71 : decode cX8_grinds 71 = .ok (.aload_n 0, 1) := by decide +kernel
theorem dX8_grinds_72 : decode cX8_grinds 72 = .ok (.invokevirtual 84, 3) := by decide +kernel
theorem dX8_grinds_75 : decode cX8_grinds 75 = .ok (.return_, 1) := by decide +kernel
set_option maxRecDepth 20000 in
theorem ggX8_grind_X8_couldGrind : GoodIn wsX8_grind wsX8_couldGrind := goodIn_r _ [6, 7, 8, 9, 10, 11, 12, 5, 13, 14, 15, 16, 17, 18, 19, 20, 21, 22, 23, 24, 25, 26, 27, 65, 66, 67, 68, 69, 70, 71, 72, 73, 74, 75, 76, 77, 78, 79] (by decide +kernel) (by decide +kernel)
set_option maxRecDepth 20000 in
theorem gX8_grind_X8_couldGrind : GoodIn wsX8_grind (wsV RX8 87 RX8 yX8_couldGrind wsX8_couldGrind) := goodIn_app (goodIn_of _ (by decide +kernel)) ggX8_grind_X8_couldGrind
set_option maxRecDepth 20000 in
theorem ggX8_grind_X8_changes : GoodIn wsX8_grind wsX8_changes := goodIn_r _ [31, 32, 33, 34, 9, 65, 66, 67, 68, 69, 70, 71, 72, 73, 74, 75, 76, 77, 78, 79] (by decide +kernel) (by decide +kernel)
set_option maxRecDepth 20000 in
theorem gX8_grind_X8_changes : GoodIn wsX8_grind (wsV RX8 70 RX8 yX8_changes wsX8_changes) := goodIn_app (goodIn_of _ (by decide +kernel)) ggX8_grind_X8_changes
set_option maxRecDepth 20000 in
theorem ggX8_grind_X8_grinds : GoodIn wsX8_grind wsX8_grinds := goodIn_r _ [38, 9, 39, 40, 41, 5, 42, 43, 44, 45, 46, 47, 48, 49, 50, 51, 52, 53, 54, 55, 56, 57, 21, 22, 23, 24, 25, 26, 27, 65, 66, 67, 68, 69, 70, 71, 72, 73, 74, 75, 76, 77, 78, 79] (by decide +kernel) (by decide +kernel)
set_option maxRecDepth 20000 in
theorem gX8_grind_X8_grinds : GoodIn wsX8_grind (wsV RX8 90 RX8 yX8_grinds wsX8_grinds) := goodIn_app (goodIn_of _ (by decide +kernel)) ggX8_grind_X8_grinds
set_option maxRecDepth 20000 in
theorem ggX8_grind_X8_passes : GoodIn wsX8_grind wsX8_passes := goodIn_r _ [61, 9, 47, 48, 49, 5, 50, 62, 63, 64, 65, 66, 67, 68, 69, 70, 71, 72, 73, 74, 75, 76, 77, 78, 79] (by decide +kernel) (by decide +kernel)
set_option maxRecDepth 20000 in
theorem gX8_grind_X8_passes : GoodIn wsX8_grind (wsV RX8 93 RX8 yX8_passes wsX8_passes) := goodIn_app (goodIn_of _ (by decide +kernel)) ggX8_grind_X8_passes
theorem dX8_grind_0 : decode cX8_grind 0 = .ok (.aload_n 0, 1) := by decide +kernel
theorem dX8_grind_1 : decode cX8_grind 1 = .ok (.iload_n 1, 1) := by decide +kernel
theorem dX8_grind_2 : decode cX8_grind 2 = .ok (.iload_n 2, 1) := by decide +kernel
theorem dX8_grind_3 : decode cX8_grind 3 = .ok (.invokevirtual 87, 3) := by decide +kernel
theorem dX8_grind_6 : decode cX8_grind 6 = .ok (.istore_n 3, 1) := by decide +kernel
theorem dX8_grind_7 : decode cX8_grind 7 = .ok (.iload_n 3, 1) := by decide +kernel
theorem dX8_grind_8 : decode cX8_grind 8 = .ok (.ifCond .ge 5, 3) := by decide +kernel
theorem dX8_grind_11 : decode cX8_grind 11 = .ok (.iload_n 3, 1) := by decide +kernel
theorem dX8_grind_12 : decode cX8_grind 12 = .ok (.ireturn, 1) := by decide +kernel
theorem dX8_grind_13 : decode cX8_grind 13 = .ok (.aload_n 0, 1) := by decide +kernel
theorem dX8_grind_14 : decode cX8_grind 14 = .ok (.invokevirtual 70, 3) := by decide +kernel
theorem dX8_grind_17 : decode cX8_grind 17 = .ok (.aload_n 0, 1) := by decide +kernel
theorem dX8_grind_18 : decode cX8_grind 18 = .ok (.iload_n 1, 1) := by decide +kernel
theorem dX8_grind_19 : decode cX8_grind 19 = .ok (.iload_n 2, 1) := by decide +kernel
theorem dX8_grind_20 : decode cX8_grind 20 = .ok (.invokevirtual 90, 3) := by decide +kernel
theorem dX8_grind_23 : decode cX8_grind 23 = .ok (.aload_n 0, 1) := by decide +kernel
theorem dX8_grind_24 : decode cX8_grind 24 = .ok (.iload_n 2, 1) := by decide +kernel
theorem dX8_grind_25 : decode cX8_grind 25 = .ok (.bipush 9, 2) := by decide +kernel
theorem dX8_grind_27 : decode cX8_grind 27 = .ok (.iadd, 1) := by decide +kernel
theorem dX8_grind_28 : decode cX8_grind 28 = .ok (.bipush 10, 2) := by decide +kernel
theorem dX8_grind_30 : decode cX8_grind 30 = .ok (.idiv, 1) := by decide +kernel
theorem dX8_grind_31 : decode cX8_grind 31 = .ok (.invokevirtual 93, 3) := by decide +kernel
theorem dX8_grind_34 : decode cX8_grind 34 = .ok (.istore 4, 2) := by decide +kernel
theorem dX8_grind_36 : decode cX8_grind 36 = .ok (.iload 4, 2) := by decide +kernel
theorem dX8_grind_38 : decode cX8_grind 38 = .ok (.ifCond .ge 8, 3) := by decide +kernel
theorem dX8_grind_41 : decode cX8_grind 41 = .ok (.ldc 96, 2) := by decide +kernel
theorem dX8_grind_43 : decode cX8_grind 43 = .ok (.goto 4, 3) := by decide +kernel
theorem dX8_grind_46 : decode cX8_grind 46 = .ok (.iload_n 3, 1) := by decide +kernel
theorem dX8_grind_47 : decode cX8_grind 47 = .ok (.ireturn, 1) := by decide +kernel
set_option maxRecDepth 20000 in
theorem ggX8_dial_X8_isOne : GoodIn wsX8_dial wsX8_isOne := goodIn_r _ [6, 7, 8, 5, 9] (by decide +kernel) (by decide +kernel)
set_option maxRecDepth 20000 in
theorem gX8_dial_X8_isOne : GoodIn wsX8_dial (va_wsS RX8 60 yX8_isOne wsX8_isOne) := goodIn_app (goodIn_of _ (by decide +kernel)) ggX8_dial_X8_isOne
set_option maxRecDepth 20000 in
theorem ggX8_dial_X8_in : GoodIn wsX8_dial wsX8_in := goodIn_r _ [9] (by decide +kernel) (by decide +kernel)
set_option maxRecDepth 20000 in
theorem gX8_dial_X8_in : GoodIn wsX8_dial (va_wsS RX8 28 yX8_in wsX8_in) := goodIn_app (goodIn_of _ (by decide +kernel)) ggX8_dial_X8_in
set_option maxRecDepth 20000 in
theorem ggX8_dial_X8_changes : GoodIn wsX8_dial wsX8_changes := goodIn_r _ [13, 14, 15, 16, 2, 21, 22, 23, 24, 25, 26, 27, 28, 29, 30, 31, 32, 33, 34, 35] (by decide +kernel) (by decide +kernel)
set_option maxRecDepth 20000 in
theorem gX8_dial_X8_changes : GoodIn wsX8_dial (wsV RX8 70 RX8 yX8_changes wsX8_changes) := goodIn_app (goodIn_of _ (by decide +kernel)) ggX8_dial_X8_changes
set_option maxRecDepth 20000 in
theorem ggX8_dial_X8_ofBurr : GoodIn wsX8_dial wsX8_ofBurr := goodIn_r _ [20, 2, 21, 22, 23, 24, 25, 26, 27, 28, 29, 30, 31, 32, 33, 34, 35] (by decide +kernel) (by decide +kernel)
set_option maxRecDepth 20000 in
theorem gX8_dial_X8_ofBurr : GoodIn wsX8_dial (wsV RX8 50 RX8 yX8_ofBurr wsX8_ofBurr) := goodIn_app (goodIn_of _ (by decide +kernel)) ggX8_dial_X8_ofBurr
theorem dX8_dial_0 : decode cX8_dial 0 = .ok (.iload_n 1, 1) := by decide +kernel
theorem dX8_dial_1 : decode cX8_dial 1 = .ok (.invokestatic 60, 3) := by decide +kernel
theorem dX8_dial_4 : decode cX8_dial 4 = .ok (.ifCond .eq 13, 3) := by decide +kernel
theorem dX8_dial_7 : decode cX8_dial 7 = .ok (.iload_n 2, 1) := by decide +kernel
theorem dX8_dial_8 : decode cX8_dial 8 = .ok (.iconst 1, 1) := by decide +kernel
theorem dX8_dial_9 : decode cX8_dial 9 = .ok (.bipush 60, 2) := by decide +kernel
theorem dX8_dial_11 : decode cX8_dial 11 = .ok (.invokestatic 28, 3) := by decide +kernel
theorem dX8_dial_14 : decode cX8_dial 14 = .ok (.ifCond .ne 6, 3) := by decide +kernel
theorem dX8_dial_17 : decode cX8_dial 17 = .ok (.ldc 64, 2) := by decide +kernel
theorem dX8_dial_19 : decode cX8_dial 19 = .ok (.ireturn, 1) := by decide +kernel
theorem dX8_dial_20 : decode cX8_dial 20 = .ok (.aload_n 0, 1) := by decide +kernel
theorem dX8_dial_21 : decode cX8_dial 21 = .ok (.invokevirtual 70, 3) := by decide +kernel
theorem dX8_dial_24 : decode cX8_dial 24 = .ok (.aload_n 0, 1) := by decide +kernel
theorem dX8_dial_25 : decode cX8_dial 25 = .ok (.iload_n 1, 1) := by decide +kernel
theorem dX8_dial_26 : decode cX8_dial 26 = .ok (.iconst 0, 1) := by decide +kernel
theorem dX8_dial_27 : decode cX8_dial 27 = .ok (.invokevirtual 50, 3) := by decide +kernel
theorem dX8_dial_30 : decode cX8_dial 30 = .ok (.istore_n 3, 1) := by decide +kernel
theorem dX8_dial_31 : decode cX8_dial 31 = .ok (.aload_n 0, 1) := by decide +kernel
theorem dX8_dial_32 : decode cX8_dial 32 = .ok (.getfield 7, 3) := by decide +kernel
theorem dX8_dial_35 : decode cX8_dial 35 = .ok (.bipush 13, 2) := by decide +kernel
theorem dX8_dial_37 : decode cX8_dial 37 = .ok (.iconst 4, 1) := by decide +kernel
theorem dX8_dial_38 : decode cX8_dial 38 = .ok (.iload_n 1, 1) := by decide +kernel
theorem dX8_dial_39 : decode cX8_dial 39 = .ok (.imul, 1) := by decide +kernel
theorem dX8_dial_40 : decode cX8_dial 40 = .ok (.iadd, 1) := by decide +kernel
theorem dX8_dial_41 : decode cX8_dial 41 = .ok (.iconst 0, 1) := by decide +kernel
theorem dX8_dial_42 : decode cX8_dial 42 = .ok (.iadd, 1) := by decide +kernel
theorem dX8_dial_43 : decode cX8_dial 43 = .ok (.iload_n 2, 1) := by decide +kernel
theorem dX8_dial_44 : decode cX8_dial 44 = .ok (.iastore, 1) := by decide +kernel
theorem dX8_dial_45 : decode cX8_dial 45 = .ok (.iload_n 3, 1) := by decide +kernel
theorem dX8_dial_46 : decode cX8_dial 46 = .ok (.ireturn, 1) := by decide +kernel
set_option maxRecDepth 20000 in
theorem ggX8_rest_X8_in : GoodIn wsX8_rest wsX8_in := goodIn_r _ [5] (by decide +kernel) (by decide +kernel)
set_option maxRecDepth 20000 in
theorem gX8_rest_X8_in : GoodIn wsX8_rest (va_wsS RX8 28 yX8_in wsX8_in) := goodIn_app (goodIn_of _ (by decide +kernel)) ggX8_rest_X8_in
set_option maxRecDepth 20000 in
theorem ggX8_rest_X8_changes : GoodIn wsX8_rest wsX8_changes := goodIn_r _ [9, 10, 11, 12, 13, 25, 26, 27, 28, 29, 30, 31, 32, 33, 34, 35, 36, 37, 38, 39] (by decide +kernel) (by decide +kernel)
set_option maxRecDepth 20000 in
theorem gX8_rest_X8_changes : GoodIn wsX8_rest (wsV RX8 70 RX8 yX8_changes wsX8_changes) := goodIn_app (goodIn_of _ (by decide +kernel)) ggX8_rest_X8_changes
set_option maxRecDepth 20000 in
theorem ggX8_rest_X8_passes : GoodIn wsX8_rest wsX8_passes := goodIn_r _ [17, 13, 18, 19, 20, 4, 21, 22, 23, 24, 25, 26, 27, 28, 29, 30, 31, 32, 33, 34, 35, 36, 37, 38, 39] (by decide +kernel) (by decide +kernel)
set_option maxRecDepth 20000 in
theorem gX8_rest_X8_passes : GoodIn wsX8_rest (wsV RX8 93 RX8 yX8_passes wsX8_passes) := goodIn_app (goodIn_of _ (by decide +kernel)) ggX8_rest_X8_passes
theorem dX8_rest_0 : decode cX8_rest 0 = .ok (.iload_n 1, 1) := by decide +kernel
theorem dX8_rest_1 : decode cX8_rest 1 = .ok (.iconst 1, 1) := by decide +kernel
theorem dX8_rest_2 : decode cX8_rest 2 = .ok (.sipush 999, 3) := by decide +kernel
theorem dX8_rest_5 : decode cX8_rest 5 = .ok (.invokestatic 28, 3) := by decide +kernel
theorem dX8_rest_8 : decode cX8_rest 8 = .ok (.ifCond .ne 6, 3) := by decide +kernel
theorem dX8_rest_11 : decode cX8_rest 11 = .ok (.ldc 64, 2) := by decide +kernel
theorem dX8_rest_13 : decode cX8_rest 13 = .ok (.ireturn, 1) := by decide +kernel
theorem dX8_rest_14 : decode cX8_rest 14 = .ok (.aload_n 0, 1) := by decide +kernel
theorem dX8_rest_15 : decode cX8_rest 15 = .ok (.invokevirtual 70, 3) := by decide +kernel
theorem dX8_rest_18 : decode cX8_rest 18 = .ok (.aload_n 0, 1) := by decide +kernel
theorem dX8_rest_19 : decode cX8_rest 19 = .ok (.iload_n 1, 1) := by decide +kernel
theorem dX8_rest_20 : decode cX8_rest 20 = .ok (.invokevirtual 93, 3) := by decide +kernel
theorem dX8_rest_23 : decode cX8_rest 23 = .ok (.ireturn, 1) := by decide +kernel
set_option maxRecDepth 20000 in
theorem ggX8_timeNow_X8_amountOf : GoodIn wsX8_timeNow wsX8_amountOf := goodIn_r _ [5] (by decide +kernel) (by decide +kernel)
set_option maxRecDepth 20000 in
theorem gX8_timeNow_X8_amountOf : GoodIn wsX8_timeNow (va_wsS RX8 47 yX8_amountOf wsX8_amountOf) := goodIn_app (goodIn_of _ (by decide +kernel)) ggX8_timeNow_X8_amountOf
set_option maxRecDepth 20000 in
theorem ggX8_timeNow_X8_flowOf : GoodIn wsX8_timeNow wsX8_flowOf := goodIn_r _ [9, 1, 10, 11, 4, 12, 13, 14, 15, 20, 21, 22, 23, 24, 25, 26, 27, 28, 29, 30, 31, 32, 33, 34] (by decide +kernel) (by decide +kernel)
set_option maxRecDepth 20000 in
theorem gX8_timeNow_X8_flowOf : GoodIn wsX8_timeNow (wsV RX8 97 RX8 yX8_flowOf wsX8_flowOf) := goodIn_app (goodIn_of _ (by decide +kernel)) ggX8_timeNow_X8_flowOf
set_option maxRecDepth 20000 in
theorem ggX8_timeNow_X8_amounts : GoodIn wsX8_timeNow wsX8_amounts := goodIn_r _ [19, 1, 2, 3, 4, 5, 20, 21, 22, 23, 24, 25, 26, 27, 28, 29, 30, 31, 32, 33, 34] (by decide +kernel) (by decide +kernel)
set_option maxRecDepth 20000 in
theorem gX8_timeNow_X8_amounts : GoodIn wsX8_timeNow (wsV RX8 76 RX8 yX8_amounts wsX8_amounts) := goodIn_app (goodIn_of _ (by decide +kernel)) ggX8_timeNow_X8_amounts
theorem dX8_timeNow_0 : decode cX8_timeNow 0 = .ok (.iconst 0, 1) := by decide +kernel
theorem dX8_timeNow_1 : decode cX8_timeNow 1 = .ok (.istore_n 1, 1) := by decide +kernel
theorem dX8_timeNow_2 : decode cX8_timeNow 2 = .ok (.iconst 0, 1) := by decide +kernel
theorem dX8_timeNow_3 : decode cX8_timeNow 3 = .ok (.istore_n 2, 1) := by decide +kernel
theorem dX8_timeNow_4 : decode cX8_timeNow 4 = .ok (.iload_n 2, 1) := by decide +kernel
theorem dX8_timeNow_5 : decode cX8_timeNow 5 = .ok (.aload_n 0, 1) := by decide +kernel
theorem dX8_timeNow_6 : decode cX8_timeNow 6 = .ok (.getfield 7, 3) := by decide +kernel
theorem dX8_timeNow_9 : decode cX8_timeNow 9 = .ok (.sipush 145, 3) := by decide +kernel
theorem dX8_timeNow_12 : decode cX8_timeNow 12 = .ok (.iaload, 1) := by decide +kernel
theorem dX8_timeNow_13 : decode cX8_timeNow 13 = .ok (.if_icmp .ge 40, 3) := by decide +kernel
theorem dX8_timeNow_16 : decode cX8_timeNow 16 = .ok (.iload_n 1, 1) := by decide +kernel
theorem dX8_timeNow_17 : decode cX8_timeNow 17 = .ok (.aload_n 0, 1) := by decide +kernel
theorem dX8_timeNow_18 : decode cX8_timeNow 18 = .ok (.getfield 7, 3) := by decide +kernel
theorem dX8_timeNow_21 : decode cX8_timeNow 21 = .ok (.sipush 146, 3) := by decide +kernel
theorem dX8_timeNow_24 : decode cX8_timeNow 24 = .ok (.iload_n 2, 1) := by decide +kernel
theorem dX8_timeNow_25 : decode cX8_timeNow 25 = .ok (.iadd, 1) := by decide +kernel
theorem dX8_timeNow_26 : decode cX8_timeNow 26 = .ok (.iaload, 1) := by decide +kernel
theorem dX8_timeNow_27 : decode cX8_timeNow 27 = .ok (.invokestatic 47, 3) := by decide +kernel
theorem dX8_timeNow_30 : decode cX8_timeNow 30 = .ok (.aload_n 0, 1) := by decide +kernel
theorem dX8_timeNow_31 : decode cX8_timeNow 31 = .ok (.aload_n 0, 1) := by decide +kernel
theorem dX8_timeNow_32 : decode cX8_timeNow 32 = .ok (.getfield 7, 3) := by decide +kernel
theorem dX8_timeNow_35 : decode cX8_timeNow 35 = .ok (.sipush 146, 3) := by decide +kernel
theorem dX8_timeNow_38 : decode cX8_timeNow 38 = .ok (.iload_n 2, 1) := by decide +kernel
theorem dX8_timeNow_39 : decode cX8_timeNow 39 = .ok (.iadd, 1) := by decide +kernel
theorem dX8_timeNow_40 : decode cX8_timeNow 40 = .ok (.iaload, 1) := by decide +kernel
theorem dX8_timeNow_41 : decode cX8_timeNow 41 = .ok (.invokevirtual 97, 3) := by decide +kernel
theorem dX8_timeNow_44 : decode cX8_timeNow 44 = .ok (.imul, 1) := by decide +kernel
theorem dX8_timeNow_45 : decode cX8_timeNow 45 = .ok (.iadd, 1) := by decide +kernel
theorem dX8_timeNow_46 : decode cX8_timeNow 46 = .ok (.istore_n 1, 1) := by decide +kernel
theorem dX8_timeNow_47 : decode cX8_timeNow 47 = .ok (.iinc 2 1, 3) := by decide +kernel
theorem dX8_timeNow_50 : decode cX8_timeNow 50 = .ok (.goto (-46), 3) := by decide +kernel
theorem dX8_timeNow_53 : decode cX8_timeNow 53 = .ok (.iload_n 1, 1) := by decide +kernel
theorem dX8_timeNow_54 : decode cX8_timeNow 54 = .ok (.aload_n 0, 1) := by decide +kernel
theorem dX8_timeNow_55 : decode cX8_timeNow 55 = .ok (.sipush 145, 3) := by decide +kernel
theorem dX8_timeNow_58 : decode cX8_timeNow 58 = .ok (.sipush 146, 3) := by decide +kernel
theorem dX8_timeNow_61 : decode cX8_timeNow 61 = .ok (.invokevirtual 76, 3) := by decide +kernel
theorem dX8_timeNow_64 : decode cX8_timeNow 64 = .ok (.idiv, 1) := by decide +kernel
theorem dX8_timeNow_65 : decode cX8_timeNow 65 = .ok (.ireturn, 1) := by decide +kernel
set_option maxRecDepth 20000 in
theorem ggX8_corrects_X8_ofBurr : GoodIn wsX8_corrects wsX8_ofBurr := goodIn_r _ [6, 1, 7, 8, 9, 10, 11, 12, 13, 14, 15, 16, 17, 18, 19, 20, 21] (by decide +kernel) (by decide +kernel)
set_option maxRecDepth 20000 in
theorem gX8_corrects_X8_ofBurr : GoodIn wsX8_corrects (wsV RX8 50 RX8 yX8_ofBurr wsX8_ofBurr) := goodIn_app (goodIn_of _ (by decide +kernel)) ggX8_corrects_X8_ofBurr
theorem dX8_corrects_0 : decode cX8_corrects 0 = .ok (.aload_n 0, 1) := by decide +kernel
theorem dX8_corrects_1 : decode cX8_corrects 1 = .ok (.iload_n 1, 1) := by decide +kernel
theorem dX8_corrects_2 : decode cX8_corrects 2 = .ok (.iconst 0, 1) := by decide +kernel
theorem dX8_corrects_3 : decode cX8_corrects 3 = .ok (.invokevirtual 50, 3) := by decide +kernel
theorem dX8_corrects_6 : decode cX8_corrects 6 = .ok (.iload_n 2, 1) := by decide +kernel
theorem dX8_corrects_7 : decode cX8_corrects 7 = .ok (.imul, 1) := by decide +kernel
theorem dX8_corrects_8 : decode cX8_corrects 8 = .ok (.aload_n 0, 1) := by decide +kernel
theorem dX8_corrects_9 : decode cX8_corrects 9 = .ok (.getfield 7, 3) := by decide +kernel
theorem dX8_corrects_12 : decode cX8_corrects 12 = .ok (.bipush 7, 2) := by decide +kernel
theorem dX8_corrects_14 : decode cX8_corrects 14 = .ok (.iaload, 1) := by decide +kernel
theorem dX8_corrects_15 : decode cX8_corrects 15 = .ok (.iconst 2, 1) := by decide +kernel
theorem dX8_corrects_16 : decode cX8_corrects 16 = .ok (.idiv, 1) := by decide +kernel
theorem dX8_corrects_17 : decode cX8_corrects 17 = .ok (.iadd, 1) := by decide +kernel
theorem dX8_corrects_18 : decode cX8_corrects 18 = .ok (.aload_n 0, 1) := by decide +kernel
theorem dX8_corrects_19 : decode cX8_corrects 19 = .ok (.getfield 7, 3) := by decide +kernel
theorem dX8_corrects_22 : decode cX8_corrects 22 = .ok (.bipush 7, 2) := by decide +kernel
theorem dX8_corrects_24 : decode cX8_corrects 24 = .ok (.iaload, 1) := by decide +kernel
theorem dX8_corrects_25 : decode cX8_corrects 25 = .ok (.idiv, 1) := by decide +kernel
theorem dX8_corrects_26 : decode cX8_corrects 26 = .ok (.istore_n 3, 1) := by decide +kernel
theorem dX8_corrects_27 : decode cX8_corrects 27 = .ok (.aload_n 0, 1) := by decide +kernel
theorem dX8_corrects_28 : decode cX8_corrects 28 = .ok (.getfield 7, 3) := by decide +kernel
theorem dX8_corrects_31 : decode cX8_corrects 31 = .ok (.bipush 13, 2) := by decide +kernel
theorem dX8_corrects_33 : decode cX8_corrects 33 = .ok (.iconst 4, 1) := by decide +kernel
theorem dX8_corrects_34 : decode cX8_corrects 34 = .ok (.iload_n 1, 1) := by decide +kernel
theorem dX8_corrects_35 : decode cX8_corrects 35 = .ok (.imul, 1) := by decide +kernel
theorem dX8_corrects_36 : decode cX8_corrects 36 = .ok (.iadd, 1) := by decide +kernel
theorem dX8_corrects_37 : decode cX8_corrects 37 = .ok (.iconst 0, 1) := by decide +kernel
theorem dX8_corrects_38 : decode cX8_corrects 38 = .ok (.iadd, 1) := by decide +kernel
theorem dX8_corrects_39 : decode cX8_corrects 39 = .ok (.iload_n 3, 1) := by decide +kernel
theorem dX8_corrects_40 : decode cX8_corrects 40 = .ok (.iconst 1, 1) := by decide +kernel
theorem dX8_corrects_41 : decode cX8_corrects 41 = .ok (.if_icmp .ge 7, 3) := by decide +kernel
theorem dX8_corrects_44 : decode cX8_corrects 44 = .ok (.iconst 1, 1) := by decide +kernel
theorem dX8_corrects_45 : decode cX8_corrects 45 = .ok (.goto 15, 3) := by decide +kernel
theorem dX8_corrects_48 : decode cX8_corrects 48 = .ok (.iload_n 3, 1) := by decide +kernel
theorem dX8_corrects_49 : decode cX8_corrects 49 = .ok (.bipush 60, 2) := by decide +kernel
theorem dX8_corrects_51 : decode cX8_corrects 51 = .ok (.if_icmp .le 8, 3) := by decide +kernel
theorem dX8_corrects_54 : decode cX8_corrects 54 = .ok (.bipush 60, 2) := by decide +kernel
theorem dX8_corrects_56 : decode cX8_corrects 56 = .ok (.goto 4, 3) := by decide +kernel
theorem dX8_corrects_59 : decode cX8_corrects 59 = .ok (.iload_n 3, 1) := by decide +kernel
theorem dX8_corrects_60 : decode cX8_corrects 60 = .ok (.iastore, 1) := by decide +kernel
theorem dX8_corrects_61 : decode cX8_corrects 61 = .ok (.aload_n 0, 1) := by decide +kernel
theorem dX8_corrects_62 : decode cX8_corrects 62 = .ok (.getfield 7, 3) := by decide +kernel
theorem dX8_corrects_65 : decode cX8_corrects 65 = .ok (.bipush 13, 2) := by decide +kernel
theorem dX8_corrects_67 : decode cX8_corrects 67 = .ok (.iconst 4, 1) := by decide +kernel
theorem dX8_corrects_68 : decode cX8_corrects 68 = .ok (.iload_n 1, 1) := by decide +kernel
theorem dX8_corrects_69 : decode cX8_corrects 69 = .ok (.imul, 1) := by decide +kernel
theorem dX8_corrects_70 : decode cX8_corrects 70 = .ok (.iadd, 1) := by decide +kernel
theorem dX8_corrects_71 : decode cX8_corrects 71 = .ok (.iconst 3, 1) := by decide +kernel
theorem dX8_corrects_72 : decode cX8_corrects 72 = .ok (.iadd, 1) := by decide +kernel
theorem dX8_corrects_73 : decode cX8_corrects 73 = .ok (.dup2, 1) := by decide +kernel
theorem dX8_corrects_74 : decode cX8_corrects 74 = .ok (.iaload, 1) := by decide +kernel
theorem dX8_corrects_75 : decode cX8_corrects 75 = .ok (.iconst 1, 1) := by decide +kernel
theorem dX8_corrects_76 : decode cX8_corrects 76 = .ok (.iadd, 1) := by decide +kernel
theorem dX8_corrects_77 : decode cX8_corrects 77 = .ok (.iastore, 1) := by decide +kernel
theorem dX8_corrects_78 : decode cX8_corrects 78 = .ok (.return_, 1) := by decide +kernel
theorem dX8_away_0 : decode cX8_away 0 = .ok (.iload_n 1, 1) := by decide +kernel
theorem dX8_away_1 : decode cX8_away 1 = .ok (.aload_n 0, 1) := by decide +kernel
theorem dX8_away_2 : decode cX8_away 2 = .ok (.getfield 7, 3) := by decide +kernel
theorem dX8_away_5 : decode cX8_away 5 = .ok (.bipush 7, 2) := by decide +kernel
theorem dX8_away_7 : decode cX8_away 7 = .ok (.iaload, 1) := by decide +kernel
theorem dX8_away_8 : decode cX8_away 8 = .ok (.isub, 1) := by decide +kernel
theorem dX8_away_9 : decode cX8_away 9 = .ok (.istore_n 2, 1) := by decide +kernel
theorem dX8_away_10 : decode cX8_away 10 = .ok (.iload_n 2, 1) := by decide +kernel
theorem dX8_away_11 : decode cX8_away 11 = .ok (.ifCond .ge 8, 3) := by decide +kernel
theorem dX8_away_14 : decode cX8_away 14 = .ok (.iload_n 2, 1) := by decide +kernel
theorem dX8_away_15 : decode cX8_away 15 = .ok (.ineg, 1) := by decide +kernel
theorem dX8_away_16 : decode cX8_away 16 = .ok (.goto 4, 3) := by decide +kernel
theorem dX8_away_19 : decode cX8_away 19 = .ok (.iload_n 2, 1) := by decide +kernel
theorem dX8_away_20 : decode cX8_away 20 = .ok (.ireturn, 1) := by decide +kernel
set_option maxRecDepth 20000 in
theorem ggX8_shot_X8_changes : GoodIn wsX8_shot wsX8_changes := goodIn_r _ [8, 9, 10, 11, 1, 55, 56, 57, 58, 59, 60, 61, 62, 63, 64, 65, 66, 67, 68, 69] (by decide +kernel) (by decide +kernel)
set_option maxRecDepth 20000 in
theorem gX8_shot_X8_changes : GoodIn wsX8_shot (wsV RX8 70 RX8 yX8_changes wsX8_changes) := goodIn_app (goodIn_of _ (by decide +kernel)) ggX8_shot_X8_changes
set_option maxRecDepth 20000 in
theorem ggX8_shot_X8_timeNow : GoodIn wsX8_shot wsX8_timeNow := goodIn_r _ [15, 1, 16, 17, 7, 18, 19, 20, 21, 22, 23, 24, 25, 26, 27, 28, 29, 30, 31, 32, 55, 56, 57, 58, 59, 60, 61, 62, 63, 64, 65, 66, 67, 68, 69] (by decide +kernel) (by decide +kernel)
set_option maxRecDepth 20000 in
theorem gX8_shot_X8_timeNow : GoodIn wsX8_shot (wsV RX8 100 RX8 yX8_timeNow wsX8_timeNow) := goodIn_app (goodIn_of _ (by decide +kernel)) ggX8_shot_X8_timeNow
set_option maxRecDepth 20000 in
theorem ggX8_shot_X8_amounts : GoodIn wsX8_shot wsX8_amounts := goodIn_r _ [32, 1, 16, 17, 7, 18, 55, 56, 57, 58, 59, 60, 61, 62, 63, 64, 65, 66, 67, 68, 69] (by decide +kernel) (by decide +kernel)
set_option maxRecDepth 20000 in
theorem gX8_shot_X8_amounts : GoodIn wsX8_shot (wsV RX8 76 RX8 yX8_amounts wsX8_amounts) := goodIn_app (goodIn_of _ (by decide +kernel)) ggX8_shot_X8_amounts
set_option maxRecDepth 20000 in
theorem ggX8_shot_X8_kindOf : GoodIn wsX8_shot wsX8_kindOf := goodIn_r _ [25] (by decide +kernel) (by decide +kernel)
set_option maxRecDepth 20000 in
theorem gX8_shot_X8_kindOf : GoodIn wsX8_shot (va_wsS RX8 40 yX8_kindOf wsX8_kindOf) := goodIn_app (goodIn_of _ (by decide +kernel)) ggX8_shot_X8_kindOf
set_option maxRecDepth 20000 in
theorem ggX8_shot_X8_amountOf : GoodIn wsX8_shot wsX8_amountOf := goodIn_r _ [18] (by decide +kernel) (by decide +kernel)
set_option maxRecDepth 20000 in
theorem gX8_shot_X8_amountOf : GoodIn wsX8_shot (va_wsS RX8 47 yX8_amountOf wsX8_amountOf) := goodIn_app (goodIn_of _ (by decide +kernel)) ggX8_shot_X8_amountOf
set_option maxRecDepth 20000 in
theorem ggX8_shot_X8_burrIn : GoodIn wsX8_shot wsX8_burrIn := goodIn_r _ [35] (by decide +kernel) (by decide +kernel)
set_option maxRecDepth 20000 in
theorem gX8_shot_X8_burrIn : GoodIn wsX8_shot (va_wsS RX8 103 yX8_burrIn wsX8_burrIn) := goodIn_app (goodIn_of _ (by decide +kernel)) ggX8_shot_X8_burrIn
set_option maxRecDepth 20000 in
theorem ggX8_shot_X8_away : GoodIn wsX8_shot wsX8_away := goodIn_r _ [39, 1, 55, 56, 57, 58, 59, 60, 61, 62, 63, 64, 65, 66, 67, 68, 69] (by decide +kernel) (by decide +kernel)
set_option maxRecDepth 20000 in
theorem gX8_shot_X8_away : GoodIn wsX8_shot (wsV RX8 106 RX8 yX8_away wsX8_away) := goodIn_app (goodIn_of _ (by decide +kernel)) ggX8_shot_X8_away
set_option maxRecDepth 20000 in
theorem ggX8_shot_X8_corrects : GoodIn wsX8_shot wsX8_corrects := goodIn_r _ [43, 1, 44, 45, 46, 7, 47, 55, 56, 57, 58, 59, 60, 61, 62, 63, 64, 65, 66, 67, 68, 69] (by decide +kernel) (by decide +kernel)
set_option maxRecDepth 20000 in
theorem gX8_shot_X8_corrects : GoodIn wsX8_shot (wsV RX8 109 RX8 yX8_corrects wsX8_corrects) := goodIn_app (goodIn_of _ (by decide +kernel)) ggX8_shot_X8_corrects
set_option maxRecDepth 20000 in
theorem ggX8_shot_X8_passes : GoodIn wsX8_shot wsX8_passes := goodIn_r _ [51, 1, 44, 45, 46, 7, 47, 52, 53, 54, 55, 56, 57, 58, 59, 60, 61, 62, 63, 64, 65, 66, 67, 68, 69] (by decide +kernel) (by decide +kernel)
set_option maxRecDepth 20000 in
theorem gX8_shot_X8_passes : GoodIn wsX8_shot (wsV RX8 93 RX8 yX8_passes wsX8_passes) := goodIn_app (goodIn_of _ (by decide +kernel)) ggX8_shot_X8_passes
theorem dX8_shot_0 : decode cX8_shot 0 = .ok (.aload_n 0, 1) := by decide +kernel
theorem dX8_shot_1 : decode cX8_shot 1 = .ok (.getfield 7, 3) := by decide +kernel
theorem dX8_shot_4 : decode cX8_shot 4 = .ok (.sipush 145, 3) := by decide +kernel
theorem dX8_shot_7 : decode cX8_shot 7 = .ok (.iaload, 1) := by decide +kernel
theorem dX8_shot_8 : decode cX8_shot 8 = .ok (.ifCond .ne 6, 3) := by decide +kernel
theorem dX8_shot_11 : decode cX8_shot 11 = .ok (.ldc 79, 2) := by decide +kernel
theorem dX8_shot_13 : decode cX8_shot 13 = .ok (.ireturn, 1) := by decide +kernel
theorem dX8_shot_14 : decode cX8_shot 14 = .ok (.aload_n 0, 1) := by decide +kernel
theorem dX8_shot_15 : decode cX8_shot 15 = .ok (.invokevirtual 70, 3) := by decide +kernel
theorem dX8_shot_18 : decode cX8_shot 18 = .ok (.aload_n 0, 1) := by decide +kernel
theorem dX8_shot_19 : decode cX8_shot 19 = .ok (.invokevirtual 100, 3) := by decide +kernel
theorem dX8_shot_22 : decode cX8_shot 22 = .ok (.istore_n 1, 1) := by decide +kernel
theorem dX8_shot_23 : decode cX8_shot 23 = .ok (.aload_n 0, 1) := by decide +kernel
theorem dX8_shot_24 : decode cX8_shot 24 = .ok (.sipush 145, 3) := by decide +kernel
theorem dX8_shot_27 : decode cX8_shot 27 = .ok (.sipush 146, 3) := by decide +kernel
theorem dX8_shot_30 : decode cX8_shot 30 = .ok (.invokevirtual 76, 3) := by decide +kernel
theorem dX8_shot_33 : decode cX8_shot 33 = .ok (.istore_n 2, 1) := by decide +kernel
theorem dX8_shot_34 : decode cX8_shot 34 = .ok (.iconst 0, 1) := by decide +kernel
theorem dX8_shot_35 : decode cX8_shot 35 = .ok (.istore_n 3, 1) := by decide +kernel
theorem dX8_shot_36 : decode cX8_shot 36 = .ok (.iconst 0, 1) := by decide +kernel
theorem dX8_shot_37 : decode cX8_shot 37 = .ok (.istore 4, 2) := by decide +kernel
theorem dX8_shot_39 : decode cX8_shot 39 = .ok (.iconst 0, 1) := by decide +kernel
theorem dX8_shot_40 : decode cX8_shot 40 = .ok (.istore 5, 2) := by decide +kernel
theorem dX8_shot_42 : decode cX8_shot 42 = .ok (.iload 5, 2) := by decide +kernel
theorem dX8_shot_44 : decode cX8_shot 44 = .ok (.aload_n 0, 1) := by decide +kernel
theorem dX8_shot_45 : decode cX8_shot 45 = .ok (.getfield 7, 3) := by decide +kernel
theorem dX8_shot_48 : decode cX8_shot 48 = .ok (.sipush 145, 3) := by decide +kernel
theorem dX8_shot_51 : decode cX8_shot 51 = .ok (.iaload, 1) := by decide +kernel
theorem dX8_shot_52 : decode cX8_shot 52 = .ok (.if_icmp .ge 52, 3) := by decide +kernel
theorem dX8_shot_55 : decode cX8_shot 55 = .ok (.aload_n 0, 1) := by decide +kernel
theorem dX8_shot_56 : decode cX8_shot 56 = .ok (.getfield 7, 3) := by decide +kernel
theorem dX8_shot_59 : decode cX8_shot 59 = .ok (.sipush 146, 3) := by decide +kernel
theorem dX8_shot_62 : decode cX8_shot 62 = .ok (.iload 5, 2) := by decide +kernel
theorem dX8_shot_64 : decode cX8_shot 64 = .ok (.iadd, 1) := by decide +kernel
theorem dX8_shot_65 : decode cX8_shot 65 = .ok (.iaload, 1) := by decide +kernel
theorem dX8_shot_66 : decode cX8_shot 66 = .ok (.istore 6, 2) := by decide +kernel
theorem dX8_shot_68 : decode cX8_shot 68 = .ok (.iload_n 3, 1) := by decide +kernel
theorem dX8_shot_69 : decode cX8_shot 69 = .ok (.iload 6, 2) := by decide +kernel
theorem dX8_shot_71 : decode cX8_shot 71 = .ok (.invokestatic 40, 3) := by decide +kernel
theorem dX8_shot_74 : decode cX8_shot 74 = .ok (.iload 6, 2) := by decide +kernel
theorem dX8_shot_76 : decode cX8_shot 76 = .ok (.invokestatic 47, 3) := by decide +kernel
theorem dX8_shot_79 : decode cX8_shot 79 = .ok (.imul, 1) := by decide +kernel
theorem dX8_shot_80 : decode cX8_shot 80 = .ok (.iadd, 1) := by decide +kernel
theorem dX8_shot_81 : decode cX8_shot 81 = .ok (.istore_n 3, 1) := by decide +kernel
theorem dX8_shot_82 : decode cX8_shot 82 = .ok (.iload 4, 2) := by decide +kernel
theorem dX8_shot_84 : decode cX8_shot 84 = .ok (.iload 6, 2) := by decide +kernel
theorem dX8_shot_86 : decode cX8_shot 86 = .ok (.invokestatic 103, 3) := by decide +kernel
theorem dX8_shot_89 : decode cX8_shot 89 = .ok (.iload 6, 2) := by decide +kernel
theorem dX8_shot_91 : decode cX8_shot 91 = .ok (.invokestatic 47, 3) := by decide +kernel
theorem dX8_shot_94 : decode cX8_shot 94 = .ok (.imul, 1) := by decide +kernel
theorem dX8_shot_95 : decode cX8_shot 95 = .ok (.iadd, 1) := by decide +kernel
theorem dX8_shot_96 : decode cX8_shot 96 = .ok (.istore 4, 2) := by decide +kernel
theorem dX8_shot_98 : decode cX8_shot 98 = .ok (.iinc 5 1, 3) := by decide +kernel
theorem dX8_shot_101 : decode cX8_shot 101 = .ok (.goto (-59), 3) := by decide +kernel
theorem dX8_shot_104 : decode cX8_shot 104 = .ok (.iconst 2, 1) := by decide +kernel
theorem dX8_shot_105 : decode cX8_shot 105 = .ok (.iload 4, 2) := by decide +kernel
theorem dX8_shot_107 : decode cX8_shot 107 = .ok (.imul, 1) := by decide +kernel
theorem dX8_shot_108 : decode cX8_shot 108 = .ok (.iload_n 2, 1) := by decide +kernel
theorem dX8_shot_109 : decode cX8_shot 109 = .ok (.if_icmp .le 7, 3) := by decide +kernel
theorem dX8_shot_112 : decode cX8_shot 112 = .ok (.iconst 1, 1) := by decide +kernel
theorem dX8_shot_113 : decode cX8_shot 113 = .ok (.goto 4, 3) := by decide +kernel
theorem dX8_shot_116 : decode cX8_shot 116 = .ok (.iconst 0, 1) := by decide +kernel
theorem dX8_shot_117 : decode cX8_shot 117 = .ok (.istore 5, 2) := by decide +kernel
theorem dX8_shot_119 : decode cX8_shot 119 = .ok (.bipush 83, 2) := by decide +kernel
theorem dX8_shot_121 : decode cX8_shot 121 = .ok (.istore 6, 2) := by decide +kernel
theorem dX8_shot_123 : decode cX8_shot 123 = .ok (.iload 6, 2) := by decide +kernel
theorem dX8_shot_125 : decode cX8_shot 125 = .ok (.bipush 7, 2) := by decide +kernel
theorem dX8_shot_127 : decode cX8_shot 127 = .ok (.if_icmp .lt 34, 3) := by decide +kernel
theorem dX8_shot_130 : decode cX8_shot 130 = .ok (.aload_n 0, 1) := by decide +kernel
theorem dX8_shot_131 : decode cX8_shot 131 = .ok (.getfield 7, 3) := by decide +kernel
theorem dX8_shot_134 : decode cX8_shot 134 = .ok (.sipush 547, 3) := by decide +kernel
theorem dX8_shot_137 : decode cX8_shot 137 = .ok (.iload 6, 2) := by decide +kernel
theorem dX8_shot_139 : decode cX8_shot 139 = .ok (.iadd, 1) := by decide +kernel
theorem dX8_shot_140 : decode cX8_shot 140 = .ok (.aload_n 0, 1) := by decide +kernel
theorem dX8_shot_141 : decode cX8_shot 141 = .ok (.getfield 7, 3) := by decide +kernel
theorem dX8_shot_144 : decode cX8_shot 144 = .ok (.sipush 547, 3) := by decide +kernel
theorem dX8_shot_147 : decode cX8_shot 147 = .ok (.iload 6, 2) := by decide +kernel
theorem dX8_shot_149 : decode cX8_shot 149 = .ok (.iadd, 1) := by decide +kernel
theorem dX8_shot_150 : decode cX8_shot 150 = .ok (.bipush 7, 2) := by decide +kernel
theorem dX8_shot_152 : decode cX8_shot 152 = .ok (.isub, 1) := by decide +kernel
theorem dX8_shot_153 : decode cX8_shot 153 = .ok (.iaload, 1) := by decide +kernel
theorem dX8_shot_154 : decode cX8_shot 154 = .ok (.iastore, 1) := by decide +kernel
theorem dX8_shot_155 : decode cX8_shot 155 = .ok (.iinc 6 (-1), 3) := by decide +kernel
theorem dX8_shot_158 : decode cX8_shot 158 = .ok (.goto (-35), 3) := by decide +kernel
theorem dX8_shot_161 : decode cX8_shot 161 = .ok (.aload_n 0, 1) := by decide +kernel
theorem dX8_shot_162 : decode cX8_shot 162 = .ok (.getfield 7, 3) := by decide +kernel
theorem dX8_shot_165 : decode cX8_shot 165 = .ok (.sipush 547, 3) := by decide +kernel
theorem dX8_shot_168 : decode cX8_shot 168 = .ok (.aload_n 0, 1) := by decide +kernel
theorem dX8_shot_169 : decode cX8_shot 169 = .ok (.getfield 7, 3) := by decide +kernel
theorem dX8_shot_172 : decode cX8_shot 172 = .ok (.iconst 5, 1) := by decide +kernel
theorem dX8_shot_173 : decode cX8_shot 173 = .ok (.iaload, 1) := by decide +kernel
theorem dX8_shot_174 : decode cX8_shot 174 = .ok (.iastore, 1) := by decide +kernel
theorem dX8_shot_175 : decode cX8_shot 175 = .ok (.aload_n 0, 1) := by decide +kernel
theorem dX8_shot_176 : decode cX8_shot 176 = .ok (.getfield 7, 3) := by decide +kernel
theorem dX8_shot_179 : decode cX8_shot 179 = .ok (.sipush 548, 3) := by decide +kernel
theorem dX8_shot_182 : decode cX8_shot 182 = .ok (.iload_n 1, 1) := by decide +kernel
theorem dX8_shot_183 : decode cX8_shot 183 = .ok (.iastore, 1) := by decide +kernel
theorem dX8_shot_184 : decode cX8_shot 184 = .ok (.aload_n 0, 1) := by decide +kernel
theorem dX8_shot_185 : decode cX8_shot 185 = .ok (.getfield 7, 3) := by decide +kernel
theorem dX8_shot_188 : decode cX8_shot 188 = .ok (.sipush 549, 3) := by decide +kernel
theorem dX8_shot_191 : decode cX8_shot 191 = .ok (.iload_n 2, 1) := by decide +kernel
theorem dX8_shot_192 : decode cX8_shot 192 = .ok (.iastore, 1) := by decide +kernel
theorem dX8_shot_193 : decode cX8_shot 193 = .ok (.aload_n 0, 1) := by decide +kernel
theorem dX8_shot_194 : decode cX8_shot 194 = .ok (.getfield 7, 3) := by decide +kernel
theorem dX8_shot_197 : decode cX8_shot 197 = .ok (.sipush 550, 3) := by decide +kernel
theorem dX8_shot_200 : decode cX8_shot 200 = .ok (.iload 5, 2) := by decide +kernel
theorem dX8_shot_202 : decode cX8_shot 202 = .ok (.iastore, 1) := by decide +kernel
theorem dX8_shot_203 : decode cX8_shot 203 = .ok (.aload_n 0, 1) := by decide +kernel
theorem dX8_shot_204 : decode cX8_shot 204 = .ok (.getfield 7, 3) := by decide +kernel
theorem dX8_shot_207 : decode cX8_shot 207 = .ok (.sipush 551, 3) := by decide +kernel
theorem dX8_shot_210 : decode cX8_shot 210 = .ok (.iconst 2, 1) := by decide +kernel
theorem dX8_shot_211 : decode cX8_shot 211 = .ok (.iload_n 3, 1) := by decide +kernel
theorem dX8_shot_212 : decode cX8_shot 212 = .ok (.imul, 1) := by decide +kernel
theorem dX8_shot_213 : decode cX8_shot 213 = .ok (.iload_n 2, 1) := by decide +kernel
theorem dX8_shot_214 : decode cX8_shot 214 = .ok (.if_icmp .le 7, 3) := by decide +kernel
theorem dX8_shot_217 : decode cX8_shot 217 = .ok (.iconst 1, 1) := by decide +kernel
theorem dX8_shot_218 : decode cX8_shot 218 = .ok (.goto 4, 3) := by decide +kernel
theorem dX8_shot_221 : decode cX8_shot 221 = .ok (.iconst 0, 1) := by decide +kernel
theorem dX8_shot_222 : decode cX8_shot 222 = .ok (.iastore, 1) := by decide +kernel
theorem dX8_shot_223 : decode cX8_shot 223 = .ok (.aload_n 0, 1) := by decide +kernel
theorem dX8_shot_224 : decode cX8_shot 224 = .ok (.getfield 7, 3) := by decide +kernel
theorem dX8_shot_227 : decode cX8_shot 227 = .ok (.sipush 552, 3) := by decide +kernel
theorem dX8_shot_230 : decode cX8_shot 230 = .ok (.aload_n 0, 1) := by decide +kernel
theorem dX8_shot_231 : decode cX8_shot 231 = .ok (.getfield 7, 3) := by decide +kernel
theorem dX8_shot_234 : decode cX8_shot 234 = .ok (.iconst 0, 1) := by decide +kernel
theorem dX8_shot_235 : decode cX8_shot 235 = .ok (.iaload, 1) := by decide +kernel
theorem dX8_shot_236 : decode cX8_shot 236 = .ok (.iastore, 1) := by decide +kernel
theorem dX8_shot_237 : decode cX8_shot 237 = .ok (.aload_n 0, 1) := by decide +kernel
theorem dX8_shot_238 : decode cX8_shot 238 = .ok (.getfield 7, 3) := by decide +kernel
theorem dX8_shot_241 : decode cX8_shot 241 = .ok (.sipush 553, 3) := by decide +kernel
theorem dX8_shot_244 : decode cX8_shot 244 = .ok (.aload_n 0, 1) := by decide +kernel
theorem dX8_shot_245 : decode cX8_shot 245 = .ok (.getfield 7, 3) := by decide +kernel
theorem dX8_shot_248 : decode cX8_shot 248 = .ok (.sipush 145, 3) := by decide +kernel
theorem dX8_shot_251 : decode cX8_shot 251 = .ok (.iaload, 1) := by decide +kernel
theorem dX8_shot_252 : decode cX8_shot 252 = .ok (.iastore, 1) := by decide +kernel
theorem dX8_shot_253 : decode cX8_shot 253 = .ok (.aload_n 0, 1) := by decide +kernel
theorem dX8_shot_254 : decode cX8_shot 254 = .ok (.getfield 7, 3) := by decide +kernel
theorem dX8_shot_257 : decode cX8_shot 257 = .ok (.sipush 546, 3) := by decide +kernel
theorem dX8_shot_260 : decode cX8_shot 260 = .ok (.dup2, 1) := by decide +kernel
theorem dX8_shot_261 : decode cX8_shot 261 = .ok (.iaload, 1) := by decide +kernel
theorem dX8_shot_262 : decode cX8_shot 262 = .ok (.aload_n 0, 1) := by decide +kernel
theorem dX8_shot_263 : decode cX8_shot 263 = .ok (.getfield 7, 3) := by decide +kernel
theorem dX8_shot_266 : decode cX8_shot 266 = .ok (.sipush 546, 3) := by decide +kernel
theorem dX8_shot_269 : decode cX8_shot 269 = .ok (.iaload, 1) := by decide +kernel
theorem dX8_shot_270 : decode cX8_shot 270 = .ok (.bipush 12, 2) := by decide +kernel
theorem dX8_shot_272 : decode cX8_shot 272 = .ok (.if_icmp .ge 7, 3) := by decide +kernel
theorem dX8_shot_275 : decode cX8_shot 275 = .ok (.iconst 1, 1) := by decide +kernel
theorem dX8_shot_276 : decode cX8_shot 276 = .ok (.goto 4, 3) := by decide +kernel
theorem dX8_shot_279 : decode cX8_shot 279 = .ok (.iconst 0, 1) := by decide +kernel
theorem dX8_shot_280 : decode cX8_shot 280 = .ok (.iadd, 1) := by decide +kernel
theorem dX8_shot_281 : decode cX8_shot 281 = .ok (.iastore, 1) := by decide +kernel
theorem dX8_shot_282 : decode cX8_shot 282 = .ok (.aload_n 0, 1) := by decide +kernel
theorem dX8_shot_283 : decode cX8_shot 283 = .ok (.getfield 7, 3) := by decide +kernel
theorem dX8_shot_286 : decode cX8_shot 286 = .ok (.iconst 5, 1) := by decide +kernel
theorem dX8_shot_287 : decode cX8_shot 287 = .ok (.dup2, 1) := by decide +kernel
theorem dX8_shot_288 : decode cX8_shot 288 = .ok (.iaload, 1) := by decide +kernel
theorem dX8_shot_289 : decode cX8_shot 289 = .ok (.iconst 1, 1) := by decide +kernel
theorem dX8_shot_290 : decode cX8_shot 290 = .ok (.iadd, 1) := by decide +kernel
theorem dX8_shot_291 : decode cX8_shot 291 = .ok (.iastore, 1) := by decide +kernel
theorem dX8_shot_292 : decode cX8_shot 292 = .ok (.aload_n 0, 1) := by decide +kernel
theorem dX8_shot_293 : decode cX8_shot 293 = .ok (.getfield 7, 3) := by decide +kernel
theorem dX8_shot_296 : decode cX8_shot 296 = .ok (.iconst 3, 1) := by decide +kernel
theorem dX8_shot_297 : decode cX8_shot 297 = .ok (.dup2, 1) := by decide +kernel
theorem dX8_shot_298 : decode cX8_shot 298 = .ok (.iaload, 1) := by decide +kernel
theorem dX8_shot_299 : decode cX8_shot 299 = .ok (.iload_n 2, 1) := by decide +kernel
theorem dX8_shot_300 : decode cX8_shot 300 = .ok (.iadd, 1) := by decide +kernel
theorem dX8_shot_301 : decode cX8_shot 301 = .ok (.iastore, 1) := by decide +kernel
theorem dX8_shot_302 : decode cX8_shot 302 = .ok (.aload_n 0, 1) := by decide +kernel
theorem dX8_shot_303 : decode cX8_shot 303 = .ok (.getfield 7, 3) := by decide +kernel
theorem dX8_shot_306 : decode cX8_shot 306 = .ok (.bipush 6, 2) := by decide +kernel
theorem dX8_shot_308 : decode cX8_shot 308 = .ok (.dup2, 1) := by decide +kernel
theorem dX8_shot_309 : decode cX8_shot 309 = .ok (.iaload, 1) := by decide +kernel
theorem dX8_shot_310 : decode cX8_shot 310 = .ok (.aload_n 0, 1) := by decide +kernel
theorem dX8_shot_311 : decode cX8_shot 311 = .ok (.iload_n 1, 1) := by decide +kernel
theorem dX8_shot_312 : decode cX8_shot 312 = .ok (.invokevirtual 106, 3) := by decide +kernel
theorem dX8_shot_315 : decode cX8_shot 315 = .ok (.aload_n 0, 1) := by decide +kernel
theorem dX8_shot_316 : decode cX8_shot 316 = .ok (.getfield 7, 3) := by decide +kernel
theorem dX8_shot_319 : decode cX8_shot 319 = .ok (.bipush 8, 2) := by decide +kernel
theorem dX8_shot_321 : decode cX8_shot 321 = .ok (.iaload, 1) := by decide +kernel
theorem dX8_shot_322 : decode cX8_shot 322 = .ok (.if_icmp .gt 7, 3) := by decide +kernel
theorem dX8_shot_325 : decode cX8_shot 325 = .ok (.iconst 1, 1) := by decide +kernel
theorem dX8_shot_326 : decode cX8_shot 326 = .ok (.goto 4, 3) := by decide +kernel
theorem dX8_shot_329 : decode cX8_shot 329 = .ok (.iconst 0, 1) := by decide +kernel
theorem dX8_shot_330 : decode cX8_shot 330 = .ok (.iadd, 1) := by decide +kernel
theorem dX8_shot_331 : decode cX8_shot 331 = .ok (.iastore, 1) := by decide +kernel
theorem dX8_shot_332 : decode cX8_shot 332 = .ok (.aload_n 0, 1) := by decide +kernel
theorem dX8_shot_333 : decode cX8_shot 333 = .ok (.getfield 7, 3) := by decide +kernel
theorem dX8_shot_336 : decode cX8_shot 336 = .ok (.sipush 145, 3) := by decide +kernel
theorem dX8_shot_339 : decode cX8_shot 339 = .ok (.iconst 0, 1) := by decide +kernel
theorem dX8_shot_340 : decode cX8_shot 340 = .ok (.iastore, 1) := by decide +kernel
theorem dX8_shot_341 : decode cX8_shot 341 = .ok (.aload_n 0, 1) := by decide +kernel
theorem dX8_shot_342 : decode cX8_shot 342 = .ok (.getfield 7, 3) := by decide +kernel
theorem dX8_shot_345 : decode cX8_shot 345 = .ok (.bipush 12, 2) := by decide +kernel
theorem dX8_shot_347 : decode cX8_shot 347 = .ok (.iaload, 1) := by decide +kernel
theorem dX8_shot_348 : decode cX8_shot 348 = .ok (.iconst 1, 1) := by decide +kernel
theorem dX8_shot_349 : decode cX8_shot 349 = .ok (.if_icmp .ne 25, 3) := by decide +kernel
theorem dX8_shot_352 : decode cX8_shot 352 = .ok (.aload_n 0, 1) := by decide +kernel
theorem dX8_shot_353 : decode cX8_shot 353 = .ok (.iload_n 1, 1) := by decide +kernel
theorem dX8_shot_354 : decode cX8_shot 354 = .ok (.invokevirtual 106, 3) := by decide +kernel
theorem dX8_shot_357 : decode cX8_shot 357 = .ok (.aload_n 0, 1) := by decide +kernel
theorem dX8_shot_358 : decode cX8_shot 358 = .ok (.getfield 7, 3) := by decide +kernel
theorem dX8_shot_361 : decode cX8_shot 361 = .ok (.bipush 8, 2) := by decide +kernel
theorem dX8_shot_363 : decode cX8_shot 363 = .ok (.iaload, 1) := by decide +kernel
theorem dX8_shot_364 : decode cX8_shot 364 = .ok (.if_icmp .le 10, 3) := by decide +kernel
theorem dX8_shot_367 : decode cX8_shot 367 = .ok (.aload_n 0, 1) := by decide +kernel
theorem dX8_shot_368 : decode cX8_shot 368 = .ok (.iload 5, 2) := by decide +kernel
theorem dX8_shot_370 : decode cX8_shot 370 = .ok (.iload_n 1, 1) := by decide +kernel
theorem dX8_shot_371 : decode cX8_shot 371 = .ok (.invokevirtual 109, 3) := by decide +kernel
theorem dX8_shot_374 : decode cX8_shot 374 = .ok (.aload_n 0, 1) := by decide +kernel
theorem dX8_shot_375 : decode cX8_shot 375 = .ok (.iload_n 1, 1) := by decide +kernel
theorem dX8_shot_376 : decode cX8_shot 376 = .ok (.bipush 10, 2) := by decide +kernel
theorem dX8_shot_378 : decode cX8_shot 378 = .ok (.idiv, 1) := by decide +kernel
theorem dX8_shot_379 : decode cX8_shot 379 = .ok (.invokevirtual 93, 3) := by decide +kernel
theorem dX8_shot_382 : decode cX8_shot 382 = .ok (.istore 6, 2) := by decide +kernel
theorem dX8_shot_384 : decode cX8_shot 384 = .ok (.iload 6, 2) := by decide +kernel
theorem dX8_shot_386 : decode cX8_shot 386 = .ok (.ifCond .ge 8, 3) := by decide +kernel
theorem dX8_shot_389 : decode cX8_shot 389 = .ok (.ldc 96, 2) := by decide +kernel
theorem dX8_shot_391 : decode cX8_shot 391 = .ok (.goto 4, 3) := by decide +kernel
theorem dX8_shot_394 : decode cX8_shot 394 = .ok (.iload_n 1, 1) := by decide +kernel
theorem dX8_shot_395 : decode cX8_shot 395 = .ok (.ireturn, 1) := by decide +kernel
set_option maxRecDepth 20000 in
theorem ggX8_purge_X8_changes : GoodIn wsX8_purge wsX8_changes := goodIn_r _ [6, 7, 8, 9, 1, 17, 18, 19, 20, 21, 22, 23, 24, 25, 26, 27, 28, 29, 30, 31] (by decide +kernel) (by decide +kernel)
set_option maxRecDepth 20000 in
theorem gX8_purge_X8_changes : GoodIn wsX8_purge (wsV RX8 70 RX8 yX8_changes wsX8_changes) := goodIn_app (goodIn_of _ (by decide +kernel)) ggX8_purge_X8_changes
set_option maxRecDepth 20000 in
theorem ggX8_purge_X8_amounts : GoodIn wsX8_purge wsX8_amounts := goodIn_r _ [13, 1, 14, 15, 5, 16, 17, 18, 19, 20, 21, 22, 23, 24, 25, 26, 27, 28, 29, 30, 31] (by decide +kernel) (by decide +kernel)
set_option maxRecDepth 20000 in
theorem gX8_purge_X8_amounts : GoodIn wsX8_purge (wsV RX8 76 RX8 yX8_amounts wsX8_amounts) := goodIn_app (goodIn_of _ (by decide +kernel)) ggX8_purge_X8_amounts
theorem dX8_purge_0 : decode cX8_purge 0 = .ok (.aload_n 0, 1) := by decide +kernel
theorem dX8_purge_1 : decode cX8_purge 1 = .ok (.invokevirtual 70, 3) := by decide +kernel
theorem dX8_purge_4 : decode cX8_purge 4 = .ok (.aload_n 0, 1) := by decide +kernel
theorem dX8_purge_5 : decode cX8_purge 5 = .ok (.bipush 34, 2) := by decide +kernel
theorem dX8_purge_7 : decode cX8_purge 7 = .ok (.bipush 35, 2) := by decide +kernel
theorem dX8_purge_9 : decode cX8_purge 9 = .ok (.invokevirtual 76, 3) := by decide +kernel
theorem dX8_purge_12 : decode cX8_purge 12 = .ok (.istore_n 1, 1) := by decide +kernel
theorem dX8_purge_13 : decode cX8_purge 13 = .ok (.aload_n 0, 1) := by decide +kernel
theorem dX8_purge_14 : decode cX8_purge 14 = .ok (.getfield 7, 3) := by decide +kernel
theorem dX8_purge_17 : decode cX8_purge 17 = .ok (.iconst 4, 1) := by decide +kernel
theorem dX8_purge_18 : decode cX8_purge 18 = .ok (.dup2, 1) := by decide +kernel
theorem dX8_purge_19 : decode cX8_purge 19 = .ok (.iaload, 1) := by decide +kernel
theorem dX8_purge_20 : decode cX8_purge 20 = .ok (.iload_n 1, 1) := by decide +kernel
theorem dX8_purge_21 : decode cX8_purge 21 = .ok (.iadd, 1) := by decide +kernel
theorem dX8_purge_22 : decode cX8_purge 22 = .ok (.iastore, 1) := by decide +kernel
theorem dX8_purge_23 : decode cX8_purge 23 = .ok (.aload_n 0, 1) := by decide +kernel
theorem dX8_purge_24 : decode cX8_purge 24 = .ok (.getfield 7, 3) := by decide +kernel
theorem dX8_purge_27 : decode cX8_purge 27 = .ok (.bipush 34, 2) := by decide +kernel
theorem dX8_purge_29 : decode cX8_purge 29 = .ok (.iconst 0, 1) := by decide +kernel
theorem dX8_purge_30 : decode cX8_purge 30 = .ok (.iastore, 1) := by decide +kernel
theorem dX8_purge_31 : decode cX8_purge 31 = .ok (.iload_n 1, 1) := by decide +kernel
theorem dX8_purge_32 : decode cX8_purge 32 = .ok (.ireturn, 1) := by decide +kernel
set_option maxRecDepth 20000 in
theorem ggX8_correct_X8_isOne : GoodIn wsX8_correct wsX8_isOne := goodIn_r _ [7, 8, 9, 6, 10] (by decide +kernel) (by decide +kernel)
set_option maxRecDepth 20000 in
theorem gX8_correct_X8_isOne : GoodIn wsX8_correct (va_wsS RX8 60 yX8_isOne wsX8_isOne) := goodIn_app (goodIn_of _ (by decide +kernel)) ggX8_correct_X8_isOne
set_option maxRecDepth 20000 in
theorem ggX8_correct_X8_changes : GoodIn wsX8_correct wsX8_changes := goodIn_r _ [14, 15, 16, 17, 2, 26, 27, 28, 29, 30, 31, 32, 33, 34, 35, 36, 37, 38, 39, 40] (by decide +kernel) (by decide +kernel)
set_option maxRecDepth 20000 in
theorem gX8_correct_X8_changes : GoodIn wsX8_correct (wsV RX8 70 RX8 yX8_changes wsX8_changes) := goodIn_app (goodIn_of _ (by decide +kernel)) ggX8_correct_X8_changes
set_option maxRecDepth 20000 in
theorem ggX8_correct_X8_corrects : GoodIn wsX8_correct wsX8_corrects := goodIn_r _ [21, 2, 22, 23, 24, 6, 25, 26, 27, 28, 29, 30, 31, 32, 33, 34, 35, 36, 37, 38, 39, 40] (by decide +kernel) (by decide +kernel)
set_option maxRecDepth 20000 in
theorem gX8_correct_X8_corrects : GoodIn wsX8_correct (wsV RX8 109 RX8 yX8_corrects wsX8_corrects) := goodIn_app (goodIn_of _ (by decide +kernel)) ggX8_correct_X8_corrects
set_option maxRecDepth 20000 in
theorem ggX8_correct_X8_ofBurr : GoodIn wsX8_correct wsX8_ofBurr := goodIn_r _ [25, 2, 26, 27, 28, 29, 30, 31, 32, 33, 34, 35, 36, 37, 38, 39, 40] (by decide +kernel) (by decide +kernel)
set_option maxRecDepth 20000 in
theorem gX8_correct_X8_ofBurr : GoodIn wsX8_correct (wsV RX8 50 RX8 yX8_ofBurr wsX8_ofBurr) := goodIn_app (goodIn_of _ (by decide +kernel)) ggX8_correct_X8_ofBurr
theorem dX8_correct_0 : decode cX8_correct 0 = .ok (.iload_n 1, 1) := by decide +kernel
theorem dX8_correct_1 : decode cX8_correct 1 = .ok (.invokestatic 60, 3) := by decide +kernel
theorem dX8_correct_4 : decode cX8_correct 4 = .ok (.ifCond .ne 6, 3) := by decide +kernel
theorem dX8_correct_7 : decode cX8_correct 7 = .ok (.ldc 64, 2) := by decide +kernel
theorem dX8_correct_9 : decode cX8_correct 9 = .ok (.ireturn, 1) := by decide +kernel
theorem dX8_correct_10 : decode cX8_correct 10 = .ok (.aload_n 0, 1) := by decide +kernel
theorem dX8_correct_11 : decode cX8_correct 11 = .ok (.getfield 7, 3) := by decide +kernel
theorem dX8_correct_14 : decode cX8_correct 14 = .ok (.sipush 546, 3) := by decide +kernel
theorem dX8_correct_17 : decode cX8_correct 17 = .ok (.iaload, 1) := by decide +kernel
theorem dX8_correct_18 : decode cX8_correct 18 = .ok (.ifCond .ne 6, 3) := by decide +kernel
theorem dX8_correct_21 : decode cX8_correct 21 = .ok (.ldc 79, 2) := by decide +kernel
theorem dX8_correct_23 : decode cX8_correct 23 = .ok (.ireturn, 1) := by decide +kernel
theorem dX8_correct_24 : decode cX8_correct 24 = .ok (.aload_n 0, 1) := by decide +kernel
theorem dX8_correct_25 : decode cX8_correct 25 = .ok (.invokevirtual 70, 3) := by decide +kernel
theorem dX8_correct_28 : decode cX8_correct 28 = .ok (.aload_n 0, 1) := by decide +kernel
theorem dX8_correct_29 : decode cX8_correct 29 = .ok (.iload_n 1, 1) := by decide +kernel
theorem dX8_correct_30 : decode cX8_correct 30 = .ok (.aload_n 0, 1) := by decide +kernel
theorem dX8_correct_31 : decode cX8_correct 31 = .ok (.getfield 7, 3) := by decide +kernel
theorem dX8_correct_34 : decode cX8_correct 34 = .ok (.sipush 548, 3) := by decide +kernel
theorem dX8_correct_37 : decode cX8_correct 37 = .ok (.iaload, 1) := by decide +kernel
theorem dX8_correct_38 : decode cX8_correct 38 = .ok (.invokevirtual 109, 3) := by decide +kernel
theorem dX8_correct_41 : decode cX8_correct 41 = .ok (.aload_n 0, 1) := by decide +kernel
theorem dX8_correct_42 : decode cX8_correct 42 = .ok (.iload_n 1, 1) := by decide +kernel
theorem dX8_correct_43 : decode cX8_correct 43 = .ok (.iconst 0, 1) := by decide +kernel
theorem dX8_correct_44 : decode cX8_correct 44 = .ok (.invokevirtual 50, 3) := by decide +kernel
theorem dX8_correct_47 : decode cX8_correct 47 = .ok (.ireturn, 1) := by decide +kernel
theorem dX8_leastOf_0 : decode cX8_leastOf 0 = .ok (.iload_n 0, 1) := by decide +kernel
theorem dX8_leastOf_1 : decode cX8_leastOf 1 = .ok (.ifCond .ne 8, 3) := by decide +kernel
theorem dX8_leastOf_4 : decode cX8_leastOf 4 = .ok (.bipush 100, 2) := by decide +kernel
theorem dX8_leastOf_6 : decode cX8_leastOf 6 = .ok (.goto 19, 3) := by decide +kernel
theorem dX8_leastOf_9 : decode cX8_leastOf 9 = .ok (.iload_n 0, 1) := by decide +kernel
theorem dX8_leastOf_10 : decode cX8_leastOf 10 = .ok (.iconst 3, 1) := by decide +kernel
theorem dX8_leastOf_11 : decode cX8_leastOf 11 = .ok (.if_icmp .eq 8, 3) := by decide +kernel
theorem dX8_leastOf_14 : decode cX8_leastOf 14 = .ok (.iload_n 0, 1) := by decide +kernel
theorem dX8_leastOf_15 : decode cX8_leastOf 15 = .ok (.iconst 4, 1) := by decide +kernel
theorem dX8_leastOf_16 : decode cX8_leastOf 16 = .ok (.if_icmp .ne 8, 3) := by decide +kernel
theorem dX8_leastOf_19 : decode cX8_leastOf 19 = .ok (.bipush 30, 2) := by decide +kernel
theorem dX8_leastOf_21 : decode cX8_leastOf 21 = .ok (.goto 4, 3) := by decide +kernel
theorem dX8_leastOf_24 : decode cX8_leastOf 24 = .ok (.iconst 0, 1) := by decide +kernel
theorem dX8_leastOf_25 : decode cX8_leastOf 25 = .ok (.ireturn, 1) := by decide +kernel
theorem dX8_mostOf_0 : decode cX8_mostOf 0 = .ok (.iload_n 0, 1) := by decide +kernel
theorem dX8_mostOf_1 : decode cX8_mostOf 1 = .ok (.ifCond .ne 9, 3) := by decide +kernel
theorem dX8_mostOf_4 : decode cX8_mostOf 4 = .ok (.sipush 600, 3) := by decide +kernel
theorem dX8_mostOf_7 : decode cX8_mostOf 7 = .ok (.goto 36, 3) := by decide +kernel
theorem dX8_mostOf_10 : decode cX8_mostOf 10 = .ok (.iload_n 0, 1) := by decide +kernel
theorem dX8_mostOf_11 : decode cX8_mostOf 11 = .ok (.iconst 1, 1) := by decide +kernel
theorem dX8_mostOf_12 : decode cX8_mostOf 12 = .ok (.if_icmp .ne 9, 3) := by decide +kernel
theorem dX8_mostOf_15 : decode cX8_mostOf 15 = .ok (.sipush 200, 3) := by decide +kernel
theorem dX8_mostOf_18 : decode cX8_mostOf 18 = .ok (.goto 25, 3) := by decide +kernel
theorem dX8_mostOf_21 : decode cX8_mostOf 21 = .ok (.iload_n 0, 1) := by decide +kernel
theorem dX8_mostOf_22 : decode cX8_mostOf 22 = .ok (.iconst 2, 1) := by decide +kernel
theorem dX8_mostOf_23 : decode cX8_mostOf 23 = .ok (.if_icmp .ne 8, 3) := by decide +kernel
theorem dX8_mostOf_26 : decode cX8_mostOf 26 = .ok (.bipush 100, 2) := by decide +kernel
theorem dX8_mostOf_28 : decode cX8_mostOf 28 = .ok (.goto 15, 3) := by decide +kernel
theorem dX8_mostOf_31 : decode cX8_mostOf 31 = .ok (.iload_n 0, 1) := by decide +kernel
theorem dX8_mostOf_32 : decode cX8_mostOf 32 = .ok (.iconst 5, 1) := by decide +kernel
theorem dX8_mostOf_33 : decode cX8_mostOf 33 = .ok (.if_icmp .ne 7, 3) := by decide +kernel
theorem dX8_mostOf_36 : decode cX8_mostOf 36 = .ok (.iconst 1, 1) := by decide +kernel
theorem dX8_mostOf_37 : decode cX8_mostOf 37 = .ok (.goto 6, 3) := by decide +kernel
theorem dX8_mostOf_40 : decode cX8_mostOf 40 = .ok (.sipush 300, 3) := by decide +kernel
theorem dX8_mostOf_43 : decode cX8_mostOf 43 = .ok (.ireturn, 1) := by decide +kernel
set_option maxRecDepth 20000 in
theorem ggX8_set_X8_in : GoodIn wsX8_set wsX8_in := goodIn_r _ [6] (by decide +kernel) (by decide +kernel)
set_option maxRecDepth 20000 in
theorem gX8_set_X8_in : GoodIn wsX8_set (va_wsS RX8 28 yX8_in wsX8_in) := goodIn_app (goodIn_of _ (by decide +kernel)) ggX8_set_X8_in
set_option maxRecDepth 20000 in
theorem ggX8_set_X8_leastOf : GoodIn wsX8_set wsX8_leastOf := goodIn_r _ [9] (by decide +kernel) (by decide +kernel)
set_option maxRecDepth 20000 in
theorem gX8_set_X8_leastOf : GoodIn wsX8_set (va_wsS RX8 112 yX8_leastOf wsX8_leastOf) := goodIn_app (goodIn_of _ (by decide +kernel)) ggX8_set_X8_leastOf
set_option maxRecDepth 20000 in
theorem ggX8_set_X8_mostOf : GoodIn wsX8_set wsX8_mostOf := goodIn_r _ [12] (by decide +kernel) (by decide +kernel)
set_option maxRecDepth 20000 in
theorem gX8_set_X8_mostOf : GoodIn wsX8_set (va_wsS RX8 115 yX8_mostOf wsX8_mostOf) := goodIn_app (goodIn_of _ (by decide +kernel)) ggX8_set_X8_mostOf
set_option maxRecDepth 20000 in
theorem ggX8_set_X8_changes : GoodIn wsX8_set wsX8_changes := goodIn_r _ [16, 17, 18, 19, 2, 20, 21, 22, 23, 24, 25, 26, 27, 28, 29, 30, 31, 32, 33, 34] (by decide +kernel) (by decide +kernel)
set_option maxRecDepth 20000 in
theorem gX8_set_X8_changes : GoodIn wsX8_set (wsV RX8 70 RX8 yX8_changes wsX8_changes) := goodIn_app (goodIn_of _ (by decide +kernel)) ggX8_set_X8_changes
theorem dX8_set_0 : decode cX8_set 0 = .ok (.iload_n 1, 1) := by decide +kernel
theorem dX8_set_1 : decode cX8_set 1 = .ok (.iconst 0, 1) := by decide +kernel
theorem dX8_set_2 : decode cX8_set 2 = .ok (.iconst 5, 1) := by decide +kernel
theorem dX8_set_3 : decode cX8_set 3 = .ok (.invokestatic 28, 3) := by decide +kernel
theorem dX8_set_6 : decode cX8_set 6 = .ok (.ifCond .eq 18, 3) := by decide +kernel
theorem dX8_set_9 : decode cX8_set 9 = .ok (.iload_n 2, 1) := by decide +kernel
theorem dX8_set_10 : decode cX8_set 10 = .ok (.iload_n 1, 1) := by decide +kernel
theorem dX8_set_11 : decode cX8_set 11 = .ok (.invokestatic 112, 3) := by decide +kernel
theorem dX8_set_14 : decode cX8_set 14 = .ok (.iload_n 1, 1) := by decide +kernel
theorem dX8_set_15 : decode cX8_set 15 = .ok (.invokestatic 115, 3) := by decide +kernel
theorem dX8_set_18 : decode cX8_set 18 = .ok (.invokestatic 28, 3) := by decide +kernel
theorem dX8_set_21 : decode cX8_set 21 = .ok (.ifCond .ne 6, 3) := by decide +kernel
theorem dX8_set_24 : decode cX8_set 24 = .ok (.ldc 64, 2) := by decide +kernel
theorem dX8_set_26 : decode cX8_set 26 = .ok (.ireturn, 1) := by decide +kernel
theorem dX8_set_27 : decode cX8_set 27 = .ok (.aload_n 0, 1) := by decide +kernel
theorem dX8_set_28 : decode cX8_set 28 = .ok (.invokevirtual 70, 3) := by decide +kernel
theorem dX8_set_31 : decode cX8_set 31 = .ok (.aload_n 0, 1) := by decide +kernel
theorem dX8_set_32 : decode cX8_set 32 = .ok (.getfield 7, 3) := by decide +kernel
theorem dX8_set_35 : decode cX8_set 35 = .ok (.bipush 7, 2) := by decide +kernel
theorem dX8_set_37 : decode cX8_set 37 = .ok (.iload_n 1, 1) := by decide +kernel
theorem dX8_set_38 : decode cX8_set 38 = .ok (.iadd, 1) := by decide +kernel
theorem dX8_set_39 : decode cX8_set 39 = .ok (.iaload, 1) := by decide +kernel
theorem dX8_set_40 : decode cX8_set 40 = .ok (.istore_n 3, 1) := by decide +kernel
theorem dX8_set_41 : decode cX8_set 41 = .ok (.aload_n 0, 1) := by decide +kernel
theorem dX8_set_42 : decode cX8_set 42 = .ok (.getfield 7, 3) := by decide +kernel
theorem dX8_set_45 : decode cX8_set 45 = .ok (.bipush 7, 2) := by decide +kernel
theorem dX8_set_47 : decode cX8_set 47 = .ok (.iload_n 1, 1) := by decide +kernel
theorem dX8_set_48 : decode cX8_set 48 = .ok (.iadd, 1) := by decide +kernel
theorem dX8_set_49 : decode cX8_set 49 = .ok (.iload_n 2, 1) := by decide +kernel
theorem dX8_set_50 : decode cX8_set 50 = .ok (.iastore, 1) := by decide +kernel
theorem dX8_set_51 : decode cX8_set 51 = .ok (.iload_n 3, 1) := by decide +kernel
theorem dX8_set_52 : decode cX8_set 52 = .ok (.ireturn, 1) := by decide +kernel
set_option maxRecDepth 20000 in
theorem ggX8_burrOf_X8_isOne : GoodIn wsX8_burrOf wsX8_isOne := goodIn_r _ [5, 6, 7, 4, 8] (by decide +kernel) (by decide +kernel)
set_option maxRecDepth 20000 in
theorem gX8_burrOf_X8_isOne : GoodIn wsX8_burrOf (va_wsS RX8 60 yX8_isOne wsX8_isOne) := goodIn_app (goodIn_of _ (by decide +kernel)) ggX8_burrOf_X8_isOne
set_option maxRecDepth 20000 in
theorem ggX8_burrOf_X8_in : GoodIn wsX8_burrOf wsX8_in := goodIn_r _ [8] (by decide +kernel) (by decide +kernel)
set_option maxRecDepth 20000 in
theorem gX8_burrOf_X8_in : GoodIn wsX8_burrOf (va_wsS RX8 28 yX8_in wsX8_in) := goodIn_app (goodIn_of _ (by decide +kernel)) ggX8_burrOf_X8_in
set_option maxRecDepth 20000 in
theorem ggX8_burrOf_X8_gap : GoodIn wsX8_burrOf wsX8_gap := goodIn_r _ [12, 13, 14, 15, 4, 16, 17, 18, 19, 20, 21, 22, 23, 24, 25, 26, 27, 28, 29, 30, 31, 32, 33, 34, 35] (by decide +kernel) (by decide +kernel)
set_option maxRecDepth 20000 in
theorem gX8_burrOf_X8_gap : GoodIn wsX8_burrOf (wsV RX8 73 RX8 yX8_gap wsX8_gap) := goodIn_app (goodIn_of _ (by decide +kernel)) ggX8_burrOf_X8_gap
set_option maxRecDepth 20000 in
theorem ggX8_burrOf_X8_ofBurr : GoodIn wsX8_burrOf wsX8_ofBurr := goodIn_r _ [16, 17, 21, 22, 23, 24, 25, 26, 27, 28, 29, 30, 31, 32, 33, 34, 35] (by decide +kernel) (by decide +kernel)
set_option maxRecDepth 20000 in
theorem gX8_burrOf_X8_ofBurr : GoodIn wsX8_burrOf (wsV RX8 50 RX8 yX8_ofBurr wsX8_ofBurr) := goodIn_app (goodIn_of _ (by decide +kernel)) ggX8_burrOf_X8_ofBurr
theorem dX8_burrOf_0 : decode cX8_burrOf 0 = .ok (.iload_n 1, 1) := by decide +kernel
theorem dX8_burrOf_1 : decode cX8_burrOf 1 = .ok (.invokestatic 60, 3) := by decide +kernel
theorem dX8_burrOf_4 : decode cX8_burrOf 4 = .ok (.ifCond .eq 12, 3) := by decide +kernel
theorem dX8_burrOf_7 : decode cX8_burrOf 7 = .ok (.iload_n 2, 1) := by decide +kernel
theorem dX8_burrOf_8 : decode cX8_burrOf 8 = .ok (.iconst 0, 1) := by decide +kernel
theorem dX8_burrOf_9 : decode cX8_burrOf 9 = .ok (.iconst 4, 1) := by decide +kernel
theorem dX8_burrOf_10 : decode cX8_burrOf 10 = .ok (.invokestatic 28, 3) := by decide +kernel
theorem dX8_burrOf_13 : decode cX8_burrOf 13 = .ok (.ifCond .ne 6, 3) := by decide +kernel
theorem dX8_burrOf_16 : decode cX8_burrOf 16 = .ok (.ldc 64, 2) := by decide +kernel
theorem dX8_burrOf_18 : decode cX8_burrOf 18 = .ok (.ireturn, 1) := by decide +kernel
theorem dX8_burrOf_19 : decode cX8_burrOf 19 = .ok (.iload_n 2, 1) := by decide +kernel
theorem dX8_burrOf_20 : decode cX8_burrOf 20 = .ok (.iconst 2, 1) := by decide +kernel
theorem dX8_burrOf_21 : decode cX8_burrOf 21 = .ok (.if_icmp .ne 11, 3) := by decide +kernel
theorem dX8_burrOf_24 : decode cX8_burrOf 24 = .ok (.aload_n 0, 1) := by decide +kernel
theorem dX8_burrOf_25 : decode cX8_burrOf 25 = .ok (.iload_n 1, 1) := by decide +kernel
theorem dX8_burrOf_26 : decode cX8_burrOf 26 = .ok (.invokevirtual 73, 3) := by decide +kernel
theorem dX8_burrOf_29 : decode cX8_burrOf 29 = .ok (.goto 20, 3) := by decide +kernel
theorem dX8_burrOf_32 : decode cX8_burrOf 32 = .ok (.aload_n 0, 1) := by decide +kernel
theorem dX8_burrOf_33 : decode cX8_burrOf 33 = .ok (.iload_n 1, 1) := by decide +kernel
theorem dX8_burrOf_34 : decode cX8_burrOf 34 = .ok (.iload_n 2, 1) := by decide +kernel
theorem dX8_burrOf_35 : decode cX8_burrOf 35 = .ok (.iconst 2, 1) := by decide +kernel
theorem dX8_burrOf_36 : decode cX8_burrOf 36 = .ok (.if_icmp .ge 7, 3) := by decide +kernel
theorem dX8_burrOf_39 : decode cX8_burrOf 39 = .ok (.iload_n 2, 1) := by decide +kernel
theorem dX8_burrOf_40 : decode cX8_burrOf 40 = .ok (.goto 6, 3) := by decide +kernel
theorem dX8_burrOf_43 : decode cX8_burrOf 43 = .ok (.iload_n 2, 1) := by decide +kernel
theorem dX8_burrOf_44 : decode cX8_burrOf 44 = .ok (.iconst 1, 1) := by decide +kernel
theorem dX8_burrOf_45 : decode cX8_burrOf 45 = .ok (.isub, 1) := by decide +kernel
theorem dX8_burrOf_46 : decode cX8_burrOf 46 = .ok (.invokevirtual 50, 3) := by decide +kernel
theorem dX8_burrOf_49 : decode cX8_burrOf 49 = .ok (.ireturn, 1) := by decide +kernel
set_option maxRecDepth 20000 in
theorem ggX8_lotOf_X8_isOne : GoodIn wsX8_lotOf wsX8_isOne := goodIn_r _ [7, 8, 9, 6, 10] (by decide +kernel) (by decide +kernel)
set_option maxRecDepth 20000 in
theorem gX8_lotOf_X8_isOne : GoodIn wsX8_lotOf (va_wsS RX8 60 yX8_isOne wsX8_isOne) := goodIn_app (goodIn_of _ (by decide +kernel)) ggX8_lotOf_X8_isOne
theorem dX8_lotOf_0 : decode cX8_lotOf 0 = .ok (.iload_n 1, 1) := by decide +kernel
theorem dX8_lotOf_1 : decode cX8_lotOf 1 = .ok (.ifCond .lt 10, 3) := by decide +kernel
theorem dX8_lotOf_4 : decode cX8_lotOf 4 = .ok (.iload_n 2, 1) := by decide +kernel
theorem dX8_lotOf_5 : decode cX8_lotOf 5 = .ok (.invokestatic 60, 3) := by decide +kernel
theorem dX8_lotOf_8 : decode cX8_lotOf 8 = .ok (.ifCond .ne 6, 3) := by decide +kernel
theorem dX8_lotOf_11 : decode cX8_lotOf 11 = .ok (.ldc 64, 2) := by decide +kernel
theorem dX8_lotOf_13 : decode cX8_lotOf 13 = .ok (.ireturn, 1) := by decide +kernel
theorem dX8_lotOf_14 : decode cX8_lotOf 14 = .ok (.iload_n 1, 1) := by decide +kernel
theorem dX8_lotOf_15 : decode cX8_lotOf 15 = .ok (.aload_n 0, 1) := by decide +kernel
theorem dX8_lotOf_16 : decode cX8_lotOf 16 = .ok (.getfield 7, 3) := by decide +kernel
theorem dX8_lotOf_19 : decode cX8_lotOf 19 = .ok (.bipush 21, 2) := by decide +kernel
theorem dX8_lotOf_21 : decode cX8_lotOf 21 = .ok (.iaload, 1) := by decide +kernel
theorem dX8_lotOf_22 : decode cX8_lotOf 22 = .ok (.if_icmp .lt 8, 3) := by decide +kernel
theorem dX8_lotOf_25 : decode cX8_lotOf 25 = .ok (.ldc 96, 2) := by decide +kernel
theorem dX8_lotOf_27 : decode cX8_lotOf 27 = .ok (.goto 16, 3) := by decide +kernel
theorem dX8_lotOf_30 : decode cX8_lotOf 30 = .ok (.aload_n 0, 1) := by decide +kernel
theorem dX8_lotOf_31 : decode cX8_lotOf 31 = .ok (.getfield 7, 3) := by decide +kernel
theorem dX8_lotOf_34 : decode cX8_lotOf 34 = .ok (.bipush 22, 2) := by decide +kernel
theorem dX8_lotOf_36 : decode cX8_lotOf 36 = .ok (.iconst 2, 1) := by decide +kernel
theorem dX8_lotOf_37 : decode cX8_lotOf 37 = .ok (.iload_n 1, 1) := by decide +kernel
theorem dX8_lotOf_38 : decode cX8_lotOf 38 = .ok (.imul, 1) := by decide +kernel
theorem dX8_lotOf_39 : decode cX8_lotOf 39 = .ok (.iadd, 1) := by decide +kernel
theorem dX8_lotOf_40 : decode cX8_lotOf 40 = .ok (.iload_n 2, 1) := by decide +kernel
theorem dX8_lotOf_41 : decode cX8_lotOf 41 = .ok (.iadd, 1) := by decide +kernel
theorem dX8_lotOf_42 : decode cX8_lotOf 42 = .ok (.iaload, 1) := by decide +kernel
theorem dX8_lotOf_43 : decode cX8_lotOf 43 = .ok (.ireturn, 1) := by decide +kernel
set_option maxRecDepth 20000 in
theorem ggX8_portionOf_X8_isOne : GoodIn wsX8_portionOf wsX8_isOne := goodIn_r _ [7, 8, 9, 6, 10] (by decide +kernel) (by decide +kernel)
set_option maxRecDepth 20000 in
theorem gX8_portionOf_X8_isOne : GoodIn wsX8_portionOf (va_wsS RX8 60 yX8_isOne wsX8_isOne) := goodIn_app (goodIn_of _ (by decide +kernel)) ggX8_portionOf_X8_isOne
set_option maxRecDepth 20000 in
theorem ggX8_portionOf_X8_in : GoodIn wsX8_portionOf wsX8_in := goodIn_r _ [10] (by decide +kernel) (by decide +kernel)
set_option maxRecDepth 20000 in
theorem gX8_portionOf_X8_in : GoodIn wsX8_portionOf (va_wsS RX8 28 yX8_in wsX8_in) := goodIn_app (goodIn_of _ (by decide +kernel)) ggX8_portionOf_X8_in
set_option maxRecDepth 20000 in
theorem ggX8_portionOf_X8_amountOf : GoodIn wsX8_portionOf wsX8_amountOf := goodIn_r _ [13] (by decide +kernel) (by decide +kernel)
set_option maxRecDepth 20000 in
theorem gX8_portionOf_X8_amountOf : GoodIn wsX8_portionOf (va_wsS RX8 47 yX8_amountOf wsX8_amountOf) := goodIn_app (goodIn_of _ (by decide +kernel)) ggX8_portionOf_X8_amountOf
set_option maxRecDepth 20000 in
theorem ggX8_portionOf_X8_kindOf : GoodIn wsX8_portionOf wsX8_kindOf := goodIn_r _ [16] (by decide +kernel) (by decide +kernel)
set_option maxRecDepth 20000 in
theorem gX8_portionOf_X8_kindOf : GoodIn wsX8_portionOf (va_wsS RX8 40 yX8_kindOf wsX8_kindOf) := goodIn_app (goodIn_of _ (by decide +kernel)) ggX8_portionOf_X8_kindOf
set_option maxRecDepth 20000 in
theorem ggX8_portionOf_X8_burrIn : GoodIn wsX8_portionOf wsX8_burrIn := goodIn_r _ [19] (by decide +kernel) (by decide +kernel)
set_option maxRecDepth 20000 in
theorem gX8_portionOf_X8_burrIn : GoodIn wsX8_portionOf (va_wsS RX8 103 yX8_burrIn wsX8_burrIn) := goodIn_app (goodIn_of _ (by decide +kernel)) ggX8_portionOf_X8_burrIn
set_option maxRecDepth 20000 in
theorem ggX8_portionOf_X8_gapOf : GoodIn wsX8_portionOf wsX8_gapOf := goodIn_r _ [22] (by decide +kernel) (by decide +kernel)
set_option maxRecDepth 20000 in
theorem gX8_portionOf_X8_gapOf : GoodIn wsX8_portionOf (va_wsS RX8 44 yX8_gapOf wsX8_gapOf) := goodIn_app (goodIn_of _ (by decide +kernel)) ggX8_portionOf_X8_gapOf
set_option maxRecDepth 20000 in
theorem ggX8_portionOf_X8_flowOf : GoodIn wsX8_portionOf wsX8_flowOf := goodIn_r _ [26, 2, 14, 15, 6, 16, 20, 21, 22, 27, 28, 29, 30, 31, 32, 33, 34, 35, 36, 37, 38, 39, 40, 41] (by decide +kernel) (by decide +kernel)
set_option maxRecDepth 20000 in
theorem gX8_portionOf_X8_flowOf : GoodIn wsX8_portionOf (wsV RX8 97 RX8 yX8_flowOf wsX8_flowOf) := goodIn_app (goodIn_of _ (by decide +kernel)) ggX8_portionOf_X8_flowOf
theorem dX8_portionOf_0 : decode cX8_portionOf 0 = .ok (.iload_n 1, 1) := by decide +kernel
theorem dX8_portionOf_1 : decode cX8_portionOf 1 = .ok (.invokestatic 60, 3) := by decide +kernel
theorem dX8_portionOf_4 : decode cX8_portionOf 4 = .ok (.ifCond .eq 16, 3) := by decide +kernel
theorem dX8_portionOf_7 : decode cX8_portionOf 7 = .ok (.iload_n 2, 1) := by decide +kernel
theorem dX8_portionOf_8 : decode cX8_portionOf 8 = .ok (.ifCond .lt 12, 3) := by decide +kernel
theorem dX8_portionOf_11 : decode cX8_portionOf 11 = .ok (.iload_n 3, 1) := by decide +kernel
theorem dX8_portionOf_12 : decode cX8_portionOf 12 = .ok (.iconst 0, 1) := by decide +kernel
theorem dX8_portionOf_13 : decode cX8_portionOf 13 = .ok (.iconst 4, 1) := by decide +kernel
theorem dX8_portionOf_14 : decode cX8_portionOf 14 = .ok (.invokestatic 28, 3) := by decide +kernel
theorem dX8_portionOf_17 : decode cX8_portionOf 17 = .ok (.ifCond .ne 6, 3) := by decide +kernel
theorem dX8_portionOf_20 : decode cX8_portionOf 20 = .ok (.ldc 64, 2) := by decide +kernel
theorem dX8_portionOf_22 : decode cX8_portionOf 22 = .ok (.ireturn, 1) := by decide +kernel
theorem dX8_portionOf_23 : decode cX8_portionOf 23 = .ok (.iload_n 2, 1) := by decide +kernel
theorem dX8_portionOf_24 : decode cX8_portionOf 24 = .ok (.aload_n 0, 1) := by decide +kernel
theorem dX8_portionOf_25 : decode cX8_portionOf 25 = .ok (.getfield 7, 3) := by decide +kernel
theorem dX8_portionOf_28 : decode cX8_portionOf 28 = .ok (.iload_n 1, 1) := by decide +kernel
theorem dX8_portionOf_29 : decode cX8_portionOf 29 = .ok (.ifCond .ne 8, 3) := by decide +kernel
theorem dX8_portionOf_32 : decode cX8_portionOf 32 = .ok (.bipush 34, 2) := by decide +kernel
theorem dX8_portionOf_34 : decode cX8_portionOf 34 = .ok (.goto 6, 3) := by decide +kernel
theorem dX8_portionOf_37 : decode cX8_portionOf 37 = .ok (.sipush 145, 3) := by decide +kernel
theorem dX8_portionOf_40 : decode cX8_portionOf 40 = .ok (.iaload, 1) := by decide +kernel
theorem dX8_portionOf_41 : decode cX8_portionOf 41 = .ok (.if_icmp .lt 6, 3) := by decide +kernel
theorem dX8_portionOf_44 : decode cX8_portionOf 44 = .ok (.ldc 96, 2) := by decide +kernel
theorem dX8_portionOf_46 : decode cX8_portionOf 46 = .ok (.ireturn, 1) := by decide +kernel
theorem dX8_portionOf_47 : decode cX8_portionOf 47 = .ok (.aload_n 0, 1) := by decide +kernel
theorem dX8_portionOf_48 : decode cX8_portionOf 48 = .ok (.getfield 7, 3) := by decide +kernel
theorem dX8_portionOf_51 : decode cX8_portionOf 51 = .ok (.iload_n 1, 1) := by decide +kernel
theorem dX8_portionOf_52 : decode cX8_portionOf 52 = .ok (.ifCond .ne 8, 3) := by decide +kernel
theorem dX8_portionOf_55 : decode cX8_portionOf 55 = .ok (.bipush 35, 2) := by decide +kernel
theorem dX8_portionOf_57 : decode cX8_portionOf 57 = .ok (.goto 6, 3) := by decide +kernel
theorem dX8_portionOf_60 : decode cX8_portionOf 60 = .ok (.sipush 146, 3) := by decide +kernel
theorem dX8_portionOf_63 : decode cX8_portionOf 63 = .ok (.iload_n 2, 1) := by decide +kernel
theorem dX8_portionOf_64 : decode cX8_portionOf 64 = .ok (.iadd, 1) := by decide +kernel
theorem dX8_portionOf_65 : decode cX8_portionOf 65 = .ok (.iaload, 1) := by decide +kernel
theorem dX8_portionOf_66 : decode cX8_portionOf 66 = .ok (.istore 4, 2) := by decide +kernel
theorem dX8_portionOf_68 : decode cX8_portionOf 68 = .ok (.iload_n 3, 1) := by decide +kernel
theorem dX8_portionOf_69 : decode cX8_portionOf 69 = .ok (.ifCond .ne 11, 3) := by decide +kernel
theorem dX8_portionOf_72 : decode cX8_portionOf 72 = .ok (.iload 4, 2) := by decide +kernel
theorem dX8_portionOf_74 : decode cX8_portionOf 74 = .ok (.invokestatic 47, 3) := by decide +kernel
theorem dX8_portionOf_77 : decode cX8_portionOf 77 = .ok (.goto 48, 3) := by decide +kernel
theorem dX8_portionOf_80 : decode cX8_portionOf 80 = .ok (.iload_n 3, 1) := by decide +kernel
theorem dX8_portionOf_81 : decode cX8_portionOf 81 = .ok (.iconst 1, 1) := by decide +kernel
theorem dX8_portionOf_82 : decode cX8_portionOf 82 = .ok (.if_icmp .ne 11, 3) := by decide +kernel
theorem dX8_portionOf_85 : decode cX8_portionOf 85 = .ok (.iload 4, 2) := by decide +kernel
theorem dX8_portionOf_87 : decode cX8_portionOf 87 = .ok (.invokestatic 40, 3) := by decide +kernel
theorem dX8_portionOf_90 : decode cX8_portionOf 90 = .ok (.goto 35, 3) := by decide +kernel
theorem dX8_portionOf_93 : decode cX8_portionOf 93 = .ok (.iload_n 3, 1) := by decide +kernel
theorem dX8_portionOf_94 : decode cX8_portionOf 94 = .ok (.iconst 2, 1) := by decide +kernel
theorem dX8_portionOf_95 : decode cX8_portionOf 95 = .ok (.if_icmp .ne 11, 3) := by decide +kernel
theorem dX8_portionOf_98 : decode cX8_portionOf 98 = .ok (.iload 4, 2) := by decide +kernel
theorem dX8_portionOf_100 : decode cX8_portionOf 100 = .ok (.invokestatic 103, 3) := by decide +kernel
theorem dX8_portionOf_103 : decode cX8_portionOf 103 = .ok (.goto 22, 3) := by decide +kernel
theorem dX8_portionOf_106 : decode cX8_portionOf 106 = .ok (.iload_n 3, 1) := by decide +kernel
theorem dX8_portionOf_107 : decode cX8_portionOf 107 = .ok (.iconst 3, 1) := by decide +kernel
theorem dX8_portionOf_108 : decode cX8_portionOf 108 = .ok (.if_icmp .ne 11, 3) := by decide +kernel
theorem dX8_portionOf_111 : decode cX8_portionOf 111 = .ok (.iload 4, 2) := by decide +kernel
theorem dX8_portionOf_113 : decode cX8_portionOf 113 = .ok (.invokestatic 44, 3) := by decide +kernel
theorem dX8_portionOf_116 : decode cX8_portionOf 116 = .ok (.goto 9, 3) := by decide +kernel
theorem dX8_portionOf_119 : decode cX8_portionOf 119 = .ok (.aload_n 0, 1) := by decide +kernel
theorem dX8_portionOf_120 : decode cX8_portionOf 120 = .ok (.iload 4, 2) := by decide +kernel
theorem dX8_portionOf_122 : decode cX8_portionOf 122 = .ok (.invokevirtual 97, 3) := by decide +kernel
theorem dX8_portionOf_125 : decode cX8_portionOf 125 = .ok (.ireturn, 1) := by decide +kernel
set_option maxRecDepth 20000 in
theorem ggX8_shotOf_X8_in : GoodIn wsX8_shotOf wsX8_in := goodIn_r _ [7] (by decide +kernel) (by decide +kernel)
set_option maxRecDepth 20000 in
theorem gX8_shotOf_X8_in : GoodIn wsX8_shotOf (va_wsS RX8 28 yX8_in wsX8_in) := goodIn_app (goodIn_of _ (by decide +kernel)) ggX8_shotOf_X8_in
set_option maxRecDepth 20000 in
theorem ggX8_shotOf_X8_away : GoodIn wsX8_shotOf wsX8_away := goodIn_r _ [11, 2, 12, 13, 14, 15, 16, 17, 18, 19, 20, 21, 22, 23, 24, 25, 26] (by decide +kernel) (by decide +kernel)
set_option maxRecDepth 20000 in
theorem gX8_shotOf_X8_away : GoodIn wsX8_shotOf (wsV RX8 106 RX8 yX8_away wsX8_away) := goodIn_app (goodIn_of _ (by decide +kernel)) ggX8_shotOf_X8_away
theorem dX8_shotOf_0 : decode cX8_shotOf 0 = .ok (.iload_n 1, 1) := by decide +kernel
theorem dX8_shotOf_1 : decode cX8_shotOf 1 = .ok (.ifCond .lt 13, 3) := by decide +kernel
theorem dX8_shotOf_4 : decode cX8_shotOf 4 = .ok (.iload_n 2, 1) := by decide +kernel
theorem dX8_shotOf_5 : decode cX8_shotOf 5 = .ok (.iconst 0, 1) := by decide +kernel
theorem dX8_shotOf_6 : decode cX8_shotOf 6 = .ok (.bipush 7, 2) := by decide +kernel
theorem dX8_shotOf_8 : decode cX8_shotOf 8 = .ok (.invokestatic 28, 3) := by decide +kernel
theorem dX8_shotOf_11 : decode cX8_shotOf 11 = .ok (.ifCond .ne 6, 3) := by decide +kernel
theorem dX8_shotOf_14 : decode cX8_shotOf 14 = .ok (.ldc 64, 2) := by decide +kernel
theorem dX8_shotOf_16 : decode cX8_shotOf 16 = .ok (.ireturn, 1) := by decide +kernel
theorem dX8_shotOf_17 : decode cX8_shotOf 17 = .ok (.iload_n 1, 1) := by decide +kernel
theorem dX8_shotOf_18 : decode cX8_shotOf 18 = .ok (.aload_n 0, 1) := by decide +kernel
theorem dX8_shotOf_19 : decode cX8_shotOf 19 = .ok (.getfield 7, 3) := by decide +kernel
theorem dX8_shotOf_22 : decode cX8_shotOf 22 = .ok (.sipush 546, 3) := by decide +kernel
theorem dX8_shotOf_25 : decode cX8_shotOf 25 = .ok (.iaload, 1) := by decide +kernel
theorem dX8_shotOf_26 : decode cX8_shotOf 26 = .ok (.if_icmp .lt 6, 3) := by decide +kernel
theorem dX8_shotOf_29 : decode cX8_shotOf 29 = .ok (.ldc 96, 2) := by decide +kernel
theorem dX8_shotOf_31 : decode cX8_shotOf 31 = .ok (.ireturn, 1) := by decide +kernel
theorem dX8_shotOf_32 : decode cX8_shotOf 32 = .ok (.sipush 547, 3) := by decide +kernel
theorem dX8_shotOf_35 : decode cX8_shotOf 35 = .ok (.bipush 7, 2) := by decide +kernel
theorem dX8_shotOf_37 : decode cX8_shotOf 37 = .ok (.iload_n 1, 1) := by decide +kernel
theorem dX8_shotOf_38 : decode cX8_shotOf 38 = .ok (.imul, 1) := by decide +kernel
theorem dX8_shotOf_39 : decode cX8_shotOf 39 = .ok (.iadd, 1) := by decide +kernel
theorem dX8_shotOf_40 : decode cX8_shotOf 40 = .ok (.istore_n 3, 1) := by decide +kernel
theorem dX8_shotOf_41 : decode cX8_shotOf 41 = .ok (.iload_n 2, 1) := by decide +kernel
theorem dX8_shotOf_42 : decode cX8_shotOf 42 = .ok (.iconst 5, 1) := by decide +kernel
theorem dX8_shotOf_43 : decode cX8_shotOf 43 = .ok (.if_icmp .ne 18, 3) := by decide +kernel
theorem dX8_shotOf_46 : decode cX8_shotOf 46 = .ok (.aload_n 0, 1) := by decide +kernel
theorem dX8_shotOf_47 : decode cX8_shotOf 47 = .ok (.aload_n 0, 1) := by decide +kernel
theorem dX8_shotOf_48 : decode cX8_shotOf 48 = .ok (.getfield 7, 3) := by decide +kernel
theorem dX8_shotOf_51 : decode cX8_shotOf 51 = .ok (.iload_n 3, 1) := by decide +kernel
theorem dX8_shotOf_52 : decode cX8_shotOf 52 = .ok (.iconst 1, 1) := by decide +kernel
theorem dX8_shotOf_53 : decode cX8_shotOf 53 = .ok (.iadd, 1) := by decide +kernel
theorem dX8_shotOf_54 : decode cX8_shotOf 54 = .ok (.iaload, 1) := by decide +kernel
theorem dX8_shotOf_55 : decode cX8_shotOf 55 = .ok (.invokevirtual 106, 3) := by decide +kernel
theorem dX8_shotOf_58 : decode cX8_shotOf 58 = .ok (.goto 22, 3) := by decide +kernel
theorem dX8_shotOf_61 : decode cX8_shotOf 61 = .ok (.aload_n 0, 1) := by decide +kernel
theorem dX8_shotOf_62 : decode cX8_shotOf 62 = .ok (.getfield 7, 3) := by decide +kernel
theorem dX8_shotOf_65 : decode cX8_shotOf 65 = .ok (.iload_n 3, 1) := by decide +kernel
theorem dX8_shotOf_66 : decode cX8_shotOf 66 = .ok (.iload_n 2, 1) := by decide +kernel
theorem dX8_shotOf_67 : decode cX8_shotOf 67 = .ok (.iconst 5, 1) := by decide +kernel
theorem dX8_shotOf_68 : decode cX8_shotOf 68 = .ok (.if_icmp .ge 7, 3) := by decide +kernel
theorem dX8_shotOf_71 : decode cX8_shotOf 71 = .ok (.iload_n 2, 1) := by decide +kernel
theorem dX8_shotOf_72 : decode cX8_shotOf 72 = .ok (.goto 6, 3) := by decide +kernel
theorem dX8_shotOf_75 : decode cX8_shotOf 75 = .ok (.iload_n 2, 1) := by decide +kernel
theorem dX8_shotOf_76 : decode cX8_shotOf 76 = .ok (.iconst 1, 1) := by decide +kernel
theorem dX8_shotOf_77 : decode cX8_shotOf 77 = .ok (.isub, 1) := by decide +kernel
theorem dX8_shotOf_78 : decode cX8_shotOf 78 = .ok (.iadd, 1) := by decide +kernel
theorem dX8_shotOf_79 : decode cX8_shotOf 79 = .ok (.iaload, 1) := by decide +kernel
theorem dX8_shotOf_80 : decode cX8_shotOf 80 = .ok (.ireturn, 1) := by decide +kernel
set_option maxRecDepth 20000 in
theorem ggX8_best_X8_away : GoodIn wsX8_best wsX8_away := goodIn_r _ [8, 3, 9, 10, 11, 12, 13, 14, 15, 16, 17, 18, 19, 20, 21, 22, 23] (by decide +kernel) (by decide +kernel)
set_option maxRecDepth 20000 in
theorem gX8_best_X8_away : GoodIn wsX8_best (wsV RX8 106 RX8 yX8_away wsX8_away) := goodIn_app (goodIn_of _ (by decide +kernel)) ggX8_best_X8_away
theorem dX8_best_0 : decode cX8_best 0 = .ok (.iload_n 1, 1) := by decide +kernel
theorem dX8_best_1 : decode cX8_best 1 = .ok (.ifCond .ge 6, 3) := by decide +kernel
theorem dX8_best_4 : decode cX8_best 4 = .ok (.ldc 64, 2) := by decide +kernel
theorem dX8_best_6 : decode cX8_best 6 = .ok (.ireturn, 1) := by decide +kernel
theorem dX8_best_7 : decode cX8_best 7 = .ok (.ldc 96, 2) := by decide +kernel
theorem dX8_best_9 : decode cX8_best 9 = .ok (.istore_n 2, 1) := by decide +kernel
theorem dX8_best_10 : decode cX8_best 10 = .ok (.iconst 0, 1) := by decide +kernel
theorem dX8_best_11 : decode cX8_best 11 = .ok (.istore_n 3, 1) := by decide +kernel
theorem dX8_best_12 : decode cX8_best 12 = .ok (.iload_n 3, 1) := by decide +kernel
theorem dX8_best_13 : decode cX8_best 13 = .ok (.aload_n 0, 1) := by decide +kernel
theorem dX8_best_14 : decode cX8_best 14 = .ok (.getfield 7, 3) := by decide +kernel
theorem dX8_best_17 : decode cX8_best 17 = .ok (.sipush 546, 3) := by decide +kernel
theorem dX8_best_20 : decode cX8_best 20 = .ok (.iaload, 1) := by decide +kernel
theorem dX8_best_21 : decode cX8_best 21 = .ok (.if_icmp .ge 131, 3) := by decide +kernel
theorem dX8_best_24 : decode cX8_best 24 = .ok (.aload_n 0, 1) := by decide +kernel
theorem dX8_best_25 : decode cX8_best 25 = .ok (.aload_n 0, 1) := by decide +kernel
theorem dX8_best_26 : decode cX8_best 26 = .ok (.getfield 7, 3) := by decide +kernel
theorem dX8_best_29 : decode cX8_best 29 = .ok (.sipush 547, 3) := by decide +kernel
theorem dX8_best_32 : decode cX8_best 32 = .ok (.bipush 7, 2) := by decide +kernel
theorem dX8_best_34 : decode cX8_best 34 = .ok (.iload_n 3, 1) := by decide +kernel
theorem dX8_best_35 : decode cX8_best 35 = .ok (.imul, 1) := by decide +kernel
theorem dX8_best_36 : decode cX8_best 36 = .ok (.iadd, 1) := by decide +kernel
theorem dX8_best_37 : decode cX8_best 37 = .ok (.iconst 1, 1) := by decide +kernel
theorem dX8_best_38 : decode cX8_best 38 = .ok (.iadd, 1) := by decide +kernel
theorem dX8_best_39 : decode cX8_best 39 = .ok (.iaload, 1) := by decide +kernel
theorem dX8_best_40 : decode cX8_best 40 = .ok (.invokevirtual 106, 3) := by decide +kernel
theorem dX8_best_43 : decode cX8_best 43 = .ok (.istore 4, 2) := by decide +kernel
theorem dX8_best_45 : decode cX8_best 45 = .ok (.iconst 0, 1) := by decide +kernel
theorem dX8_best_46 : decode cX8_best 46 = .ok (.istore 5, 2) := by decide +kernel
theorem dX8_best_48 : decode cX8_best 48 = .ok (.iconst 0, 1) := by decide +kernel
theorem dX8_best_49 : decode cX8_best 49 = .ok (.istore 6, 2) := by decide +kernel
theorem dX8_best_51 : decode cX8_best 51 = .ok (.iload 6, 2) := by decide +kernel
theorem dX8_best_53 : decode cX8_best 53 = .ok (.aload_n 0, 1) := by decide +kernel
theorem dX8_best_54 : decode cX8_best 54 = .ok (.getfield 7, 3) := by decide +kernel
theorem dX8_best_57 : decode cX8_best 57 = .ok (.sipush 546, 3) := by decide +kernel
theorem dX8_best_60 : decode cX8_best 60 = .ok (.iaload, 1) := by decide +kernel
theorem dX8_best_61 : decode cX8_best 61 = .ok (.if_icmp .ge 61, 3) := by decide +kernel
theorem dX8_best_64 : decode cX8_best 64 = .ok (.aload_n 0, 1) := by decide +kernel
theorem dX8_best_65 : decode cX8_best 65 = .ok (.aload_n 0, 1) := by decide +kernel
theorem dX8_best_66 : decode cX8_best 66 = .ok (.getfield 7, 3) := by decide +kernel
theorem dX8_best_69 : decode cX8_best 69 = .ok (.sipush 547, 3) := by decide +kernel
theorem dX8_best_72 : decode cX8_best 72 = .ok (.bipush 7, 2) := by decide +kernel
theorem dX8_best_74 : decode cX8_best 74 = .ok (.iload 6, 2) := by decide +kernel
theorem dX8_best_76 : decode cX8_best 76 = .ok (.imul, 1) := by decide +kernel
theorem dX8_best_77 : decode cX8_best 77 = .ok (.iadd, 1) := by decide +kernel
theorem dX8_best_78 : decode cX8_best 78 = .ok (.iconst 1, 1) := by decide +kernel
theorem dX8_best_79 : decode cX8_best 79 = .ok (.iadd, 1) := by decide +kernel
theorem dX8_best_80 : decode cX8_best 80 = .ok (.iaload, 1) := by decide +kernel
theorem dX8_best_81 : decode cX8_best 81 = .ok (.invokevirtual 106, 3) := by decide +kernel
theorem dX8_best_84 : decode cX8_best 84 = .ok (.istore 7, 2) := by decide +kernel
theorem dX8_best_86 : decode cX8_best 86 = .ok (.iload 5, 2) := by decide +kernel
theorem dX8_best_88 : decode cX8_best 88 = .ok (.iload 7, 2) := by decide +kernel
theorem dX8_best_90 : decode cX8_best 90 = .ok (.iload 4, 2) := by decide +kernel
theorem dX8_best_92 : decode cX8_best 92 = .ok (.if_icmp .lt 16, 3) := by decide +kernel
theorem dX8_best_95 : decode cX8_best 95 = .ok (.iload 7, 2) := by decide +kernel
theorem dX8_best_97 : decode cX8_best 97 = .ok (.iload 4, 2) := by decide +kernel
theorem dX8_best_99 : decode cX8_best 99 = .ok (.if_icmp .ne 13, 3) := by decide +kernel
theorem dX8_best_102 : decode cX8_best 102 = .ok (.iload 6, 2) := by decide +kernel
theorem dX8_best_104 : decode cX8_best 104 = .ok (.iload_n 3, 1) := by decide +kernel
theorem dX8_best_105 : decode cX8_best 105 = .ok (.if_icmp .ge 7, 3) := by decide +kernel
theorem dX8_best_108 : decode cX8_best 108 = .ok (.iconst 1, 1) := by decide +kernel
theorem dX8_best_109 : decode cX8_best 109 = .ok (.goto 4, 3) := by decide +kernel
theorem dX8_best_112 : decode cX8_best 112 = .ok (.iconst 0, 1) := by decide +kernel
theorem dX8_best_113 : decode cX8_best 113 = .ok (.iadd, 1) := by decide +kernel
theorem dX8_best_114 : decode cX8_best 114 = .ok (.istore 5, 2) := by decide +kernel
theorem dX8_best_116 : decode cX8_best 116 = .ok (.iinc 6 1, 3) := by decide +kernel
theorem dX8_best_119 : decode cX8_best 119 = .ok (.goto (-68), 3) := by decide +kernel
theorem dX8_best_122 : decode cX8_best 122 = .ok (.iload 5, 2) := by decide +kernel
theorem dX8_best_124 : decode cX8_best 124 = .ok (.iload_n 1, 1) := by decide +kernel
theorem dX8_best_125 : decode cX8_best 125 = .ok (.if_icmp .ne 19, 3) := by decide +kernel
theorem dX8_best_128 : decode cX8_best 128 = .ok (.aload_n 0, 1) := by decide +kernel
theorem dX8_best_129 : decode cX8_best 129 = .ok (.getfield 7, 3) := by decide +kernel
theorem dX8_best_132 : decode cX8_best 132 = .ok (.sipush 547, 3) := by decide +kernel
theorem dX8_best_135 : decode cX8_best 135 = .ok (.bipush 7, 2) := by decide +kernel
theorem dX8_best_137 : decode cX8_best 137 = .ok (.iload_n 3, 1) := by decide +kernel
theorem dX8_best_138 : decode cX8_best 138 = .ok (.imul, 1) := by decide +kernel
theorem dX8_best_139 : decode cX8_best 139 = .ok (.iadd, 1) := by decide +kernel
theorem dX8_best_140 : decode cX8_best 140 = .ok (.iaload, 1) := by decide +kernel
theorem dX8_best_141 : decode cX8_best 141 = .ok (.goto 4, 3) := by decide +kernel
theorem dX8_best_144 : decode cX8_best 144 = .ok (.iload_n 2, 1) := by decide +kernel
theorem dX8_best_145 : decode cX8_best 145 = .ok (.istore_n 2, 1) := by decide +kernel
theorem dX8_best_146 : decode cX8_best 146 = .ok (.iinc 3 1, 3) := by decide +kernel
theorem dX8_best_149 : decode cX8_best 149 = .ok (.goto (-137), 3) := by decide +kernel
theorem dX8_best_152 : decode cX8_best 152 = .ok (.iload_n 2, 1) := by decide +kernel
theorem dX8_best_153 : decode cX8_best 153 = .ok (.ireturn, 1) := by decide +kernel
set_option maxRecDepth 20000 in
theorem ggX8_wouldTake_X8_couldGrind : GoodIn wsX8_wouldTake wsX8_couldGrind := goodIn_r _ [8, 9, 2, 1, 10, 11, 12, 7, 13, 14, 15, 16, 17, 18, 19, 20, 21, 22, 23, 24, 25, 26, 27, 68, 69, 70, 71, 72, 73, 74, 75, 76, 77, 78, 79, 80, 81, 82] (by decide +kernel) (by decide +kernel)
set_option maxRecDepth 20000 in
theorem gX8_wouldTake_X8_couldGrind : GoodIn wsX8_wouldTake (wsV RX8 87 RX8 yX8_couldGrind wsX8_couldGrind) := goodIn_app (goodIn_of _ (by decide +kernel)) ggX8_wouldTake_X8_couldGrind
set_option maxRecDepth 20000 in
theorem ggX8_wouldTake_X8_copies : GoodIn wsX8_wouldTake wsX8_copies := goodIn_r _ [30] (by decide +kernel) (by decide +kernel)
set_option maxRecDepth 20000 in
theorem gX8_wouldTake_X8_copies : GoodIn wsX8_wouldTake (va_wsS RX8 118 yX8_copies wsX8_copies) := goodIn_app (goodIn_of _ (by decide +kernel)) ggX8_wouldTake_X8_copies
set_option maxRecDepth 20000 in
theorem ggX8_wouldTake_X8_grinds : GoodIn wsX8_wouldTake wsX8_grinds := goodIn_r _ [34, 1, 35, 36, 37, 7, 38, 39, 40, 41, 42, 43, 44, 45, 46, 47, 48, 49, 50, 51, 52, 53, 21, 22, 23, 24, 25, 26, 27, 68, 69, 70, 71, 72, 73, 74, 75, 76, 77, 78, 79, 80, 81, 82] (by decide +kernel) (by decide +kernel)
set_option maxRecDepth 20000 in
theorem gX8_wouldTake_X8_grinds : GoodIn wsX8_wouldTake (wsV RX8 90 RX8 yX8_grinds wsX8_grinds) := goodIn_app (goodIn_of _ (by decide +kernel)) ggX8_wouldTake_X8_grinds
set_option maxRecDepth 20000 in
theorem ggX8_wouldTake_X8_timeNow : GoodIn wsX8_wouldTake wsX8_timeNow := goodIn_r _ [57, 1, 25, 26, 7, 27, 58, 59, 60, 61, 62, 63, 64, 65, 66, 67, 21, 22, 23, 24, 68, 69, 70, 71, 72, 73, 74, 75, 76, 77, 78, 79, 80, 81, 82] (by decide +kernel) (by decide +kernel)
set_option maxRecDepth 20000 in
theorem gX8_wouldTake_X8_timeNow : GoodIn wsX8_wouldTake (wsV RX8 100 RX8 yX8_timeNow wsX8_timeNow) := goodIn_app (goodIn_of _ (by decide +kernel)) ggX8_wouldTake_X8_timeNow
theorem dX8_wouldTake_0 : decode cX8_wouldTake 0 = .ok (.aload_n 0, 1) := by decide +kernel
theorem dX8_wouldTake_1 : decode cX8_wouldTake 1 = .ok (.iload_n 1, 1) := by decide +kernel
theorem dX8_wouldTake_2 : decode cX8_wouldTake 2 = .ok (.iload_n 2, 1) := by decide +kernel
theorem dX8_wouldTake_3 : decode cX8_wouldTake 3 = .ok (.invokevirtual 87, 3) := by decide +kernel
theorem dX8_wouldTake_6 : decode cX8_wouldTake 6 = .ok (.istore_n 3, 1) := by decide +kernel
theorem dX8_wouldTake_7 : decode cX8_wouldTake 7 = .ok (.iload_n 3, 1) := by decide +kernel
theorem dX8_wouldTake_8 : decode cX8_wouldTake 8 = .ok (.ifCond .ge 5, 3) := by decide +kernel
theorem dX8_wouldTake_11 : decode cX8_wouldTake 11 = .ok (.iload_n 3, 1) := by decide +kernel
theorem dX8_wouldTake_12 : decode cX8_wouldTake 12 = .ok (.ireturn, 1) := by decide +kernel
theorem dX8_wouldTake_13 : decode cX8_wouldTake 13 = .ok (.iload_n 3, 1) := by decide +kernel
theorem dX8_wouldTake_14 : decode cX8_wouldTake 14 = .ok (.ifCond .ne 17, 3) := by decide +kernel
theorem dX8_wouldTake_17 : decode cX8_wouldTake 17 = .ok (.aload_n 0, 1) := by decide +kernel
theorem dX8_wouldTake_18 : decode cX8_wouldTake 18 = .ok (.getfield 7, 3) := by decide +kernel
theorem dX8_wouldTake_21 : decode cX8_wouldTake 21 = .ok (.sipush 145, 3) := by decide +kernel
theorem dX8_wouldTake_24 : decode cX8_wouldTake 24 = .ok (.iaload, 1) := by decide +kernel
theorem dX8_wouldTake_25 : decode cX8_wouldTake 25 = .ok (.ifCond .ne 6, 3) := by decide +kernel
theorem dX8_wouldTake_28 : decode cX8_wouldTake 28 = .ok (.ldc 79, 2) := by decide +kernel
theorem dX8_wouldTake_30 : decode cX8_wouldTake 30 = .ok (.ireturn, 1) := by decide +kernel
theorem dX8_wouldTake_31 : decode cX8_wouldTake 31 = .ok (.aload_n 0, 1) := by decide +kernel
theorem dX8_wouldTake_32 : decode cX8_wouldTake 32 = .ok (.getfield 7, 3) := by decide +kernel
theorem dX8_wouldTake_35 : decode cX8_wouldTake 35 = .ok (.aload_n 0, 1) := by decide +kernel
theorem dX8_wouldTake_36 : decode cX8_wouldTake 36 = .ok (.getfield 19, 3) := by decide +kernel
theorem dX8_wouldTake_39 : decode cX8_wouldTake 39 = .ok (.invokestatic 118, 3) := by decide +kernel
theorem dX8_wouldTake_42 : decode cX8_wouldTake 42 = .ok (.aload_n 0, 1) := by decide +kernel
theorem dX8_wouldTake_43 : decode cX8_wouldTake 43 = .ok (.iload_n 1, 1) := by decide +kernel
theorem dX8_wouldTake_44 : decode cX8_wouldTake 44 = .ok (.iload_n 2, 1) := by decide +kernel
theorem dX8_wouldTake_45 : decode cX8_wouldTake 45 = .ok (.invokevirtual 90, 3) := by decide +kernel
theorem dX8_wouldTake_48 : decode cX8_wouldTake 48 = .ok (.aload_n 0, 1) := by decide +kernel
theorem dX8_wouldTake_49 : decode cX8_wouldTake 49 = .ok (.invokevirtual 100, 3) := by decide +kernel
theorem dX8_wouldTake_52 : decode cX8_wouldTake 52 = .ok (.istore 4, 2) := by decide +kernel
theorem dX8_wouldTake_54 : decode cX8_wouldTake 54 = .ok (.aload_n 0, 1) := by decide +kernel
theorem dX8_wouldTake_55 : decode cX8_wouldTake 55 = .ok (.getfield 19, 3) := by decide +kernel
theorem dX8_wouldTake_58 : decode cX8_wouldTake 58 = .ok (.aload_n 0, 1) := by decide +kernel
theorem dX8_wouldTake_59 : decode cX8_wouldTake 59 = .ok (.getfield 7, 3) := by decide +kernel
theorem dX8_wouldTake_62 : decode cX8_wouldTake 62 = .ok (.invokestatic 118, 3) := by decide +kernel
theorem dX8_wouldTake_65 : decode cX8_wouldTake 65 = .ok (.iload 4, 2) := by decide +kernel
theorem dX8_wouldTake_67 : decode cX8_wouldTake 67 = .ok (.ireturn, 1) := by decide +kernel
set_option maxRecDepth 20000 in
theorem ggX8_dialFor_X8_isOne : GoodIn wsX8_dialFor wsX8_isOne := goodIn_r _ [6, 7, 8, 5, 9] (by decide +kernel) (by decide +kernel)
set_option maxRecDepth 20000 in
theorem gX8_dialFor_X8_isOne : GoodIn wsX8_dialFor (va_wsS RX8 60 yX8_isOne wsX8_isOne) := goodIn_app (goodIn_of _ (by decide +kernel)) ggX8_dialFor_X8_isOne
set_option maxRecDepth 20000 in
theorem ggX8_dialFor_X8_ofBurr : GoodIn wsX8_dialFor wsX8_ofBurr := goodIn_r _ [13, 2, 21, 22, 23, 24, 25, 26, 27, 28, 29, 30, 31, 32, 33, 34, 35] (by decide +kernel) (by decide +kernel)
set_option maxRecDepth 20000 in
theorem gX8_dialFor_X8_ofBurr : GoodIn wsX8_dialFor (wsV RX8 50 RX8 yX8_ofBurr wsX8_ofBurr) := goodIn_app (goodIn_of _ (by decide +kernel)) ggX8_dialFor_X8_ofBurr
set_option maxRecDepth 20000 in
theorem ggX8_dialFor_X8_gapBy : GoodIn wsX8_dialFor wsX8_gapBy := goodIn_r _ [16] (by decide +kernel) (by decide +kernel)
set_option maxRecDepth 20000 in
theorem gX8_dialFor_X8_gapBy : GoodIn wsX8_dialFor (va_wsS RX8 54 yX8_gapBy wsX8_gapBy) := goodIn_app (goodIn_of _ (by decide +kernel)) ggX8_dialFor_X8_gapBy
set_option maxRecDepth 20000 in
theorem ggX8_dialFor_X8_away : GoodIn wsX8_dialFor wsX8_away := goodIn_r _ [20, 2, 21, 22, 23, 24, 25, 26, 27, 28, 29, 30, 31, 32, 33, 34, 35] (by decide +kernel) (by decide +kernel)
set_option maxRecDepth 20000 in
theorem gX8_dialFor_X8_away : GoodIn wsX8_dialFor (wsV RX8 106 RX8 yX8_away wsX8_away) := goodIn_app (goodIn_of _ (by decide +kernel)) ggX8_dialFor_X8_away
theorem dX8_dialFor_0 : decode cX8_dialFor 0 = .ok (.iload_n 1, 1) := by decide +kernel
theorem dX8_dialFor_1 : decode cX8_dialFor 1 = .ok (.invokestatic 60, 3) := by decide +kernel
theorem dX8_dialFor_4 : decode cX8_dialFor 4 = .ok (.ifCond .eq 10, 3) := by decide +kernel
theorem dX8_dialFor_7 : decode cX8_dialFor 7 = .ok (.iload_n 2, 1) := by decide +kernel
theorem dX8_dialFor_8 : decode cX8_dialFor 8 = .ok (.invokestatic 60, 3) := by decide +kernel
theorem dX8_dialFor_11 : decode cX8_dialFor 11 = .ok (.ifCond .ne 6, 3) := by decide +kernel
theorem dX8_dialFor_14 : decode cX8_dialFor 14 = .ok (.ldc 64, 2) := by decide +kernel
theorem dX8_dialFor_16 : decode cX8_dialFor 16 = .ok (.ireturn, 1) := by decide +kernel
theorem dX8_dialFor_17 : decode cX8_dialFor 17 = .ok (.iconst 1, 1) := by decide +kernel
theorem dX8_dialFor_18 : decode cX8_dialFor 18 = .ok (.istore_n 3, 1) := by decide +kernel
theorem dX8_dialFor_19 : decode cX8_dialFor 19 = .ok (.iconst (-1), 1) := by decide +kernel
theorem dX8_dialFor_20 : decode cX8_dialFor 20 = .ok (.istore 4, 2) := by decide +kernel
theorem dX8_dialFor_22 : decode cX8_dialFor 22 = .ok (.iconst 1, 1) := by decide +kernel
theorem dX8_dialFor_23 : decode cX8_dialFor 23 = .ok (.istore 5, 2) := by decide +kernel
theorem dX8_dialFor_25 : decode cX8_dialFor 25 = .ok (.iload 5, 2) := by decide +kernel
theorem dX8_dialFor_27 : decode cX8_dialFor 27 = .ok (.bipush 60, 2) := by decide +kernel
theorem dX8_dialFor_29 : decode cX8_dialFor 29 = .ok (.if_icmp .gt 59, 3) := by decide +kernel
theorem dX8_dialFor_32 : decode cX8_dialFor 32 = .ok (.aload_n 0, 1) := by decide +kernel
theorem dX8_dialFor_33 : decode cX8_dialFor 33 = .ok (.aload_n 0, 1) := by decide +kernel
theorem dX8_dialFor_34 : decode cX8_dialFor 34 = .ok (.getfield 7, 3) := by decide +kernel
theorem dX8_dialFor_37 : decode cX8_dialFor 37 = .ok (.bipush 10, 2) := by decide +kernel
theorem dX8_dialFor_39 : decode cX8_dialFor 39 = .ok (.iload_n 2, 1) := by decide +kernel
theorem dX8_dialFor_40 : decode cX8_dialFor 40 = .ok (.iadd, 1) := by decide +kernel
theorem dX8_dialFor_41 : decode cX8_dialFor 41 = .ok (.iaload, 1) := by decide +kernel
theorem dX8_dialFor_42 : decode cX8_dialFor 42 = .ok (.sipush 1000, 3) := by decide +kernel
theorem dX8_dialFor_45 : decode cX8_dialFor 45 = .ok (.imul, 1) := by decide +kernel
theorem dX8_dialFor_46 : decode cX8_dialFor 46 = .ok (.iload 5, 2) := by decide +kernel
theorem dX8_dialFor_48 : decode cX8_dialFor 48 = .ok (.aload_n 0, 1) := by decide +kernel
theorem dX8_dialFor_49 : decode cX8_dialFor 49 = .ok (.iload_n 1, 1) := by decide +kernel
theorem dX8_dialFor_50 : decode cX8_dialFor 50 = .ok (.iconst 1, 1) := by decide +kernel
theorem dX8_dialFor_51 : decode cX8_dialFor 51 = .ok (.invokevirtual 50, 3) := by decide +kernel
theorem dX8_dialFor_54 : decode cX8_dialFor 54 = .ok (.invokestatic 54, 3) := by decide +kernel
theorem dX8_dialFor_57 : decode cX8_dialFor 57 = .ok (.idiv, 1) := by decide +kernel
theorem dX8_dialFor_58 : decode cX8_dialFor 58 = .ok (.invokevirtual 106, 3) := by decide +kernel
theorem dX8_dialFor_61 : decode cX8_dialFor 61 = .ok (.istore 6, 2) := by decide +kernel
theorem dX8_dialFor_63 : decode cX8_dialFor 63 = .ok (.iload 4, 2) := by decide +kernel
theorem dX8_dialFor_65 : decode cX8_dialFor 65 = .ok (.ifCond .lt 10, 3) := by decide +kernel
theorem dX8_dialFor_68 : decode cX8_dialFor 68 = .ok (.iload 6, 2) := by decide +kernel
theorem dX8_dialFor_70 : decode cX8_dialFor 70 = .ok (.iload 4, 2) := by decide +kernel
theorem dX8_dialFor_72 : decode cX8_dialFor 72 = .ok (.if_icmp .ge 10, 3) := by decide +kernel
theorem dX8_dialFor_75 : decode cX8_dialFor 75 = .ok (.iload 5, 2) := by decide +kernel
theorem dX8_dialFor_77 : decode cX8_dialFor 77 = .ok (.istore_n 3, 1) := by decide +kernel
theorem dX8_dialFor_78 : decode cX8_dialFor 78 = .ok (.iload 6, 2) := by decide +kernel
theorem dX8_dialFor_80 : decode cX8_dialFor 80 = .ok (.istore 4, 2) := by decide +kernel
theorem dX8_dialFor_82 : decode cX8_dialFor 82 = .ok (.iinc 5 1, 3) := by decide +kernel
theorem dX8_dialFor_85 : decode cX8_dialFor 85 = .ok (.goto (-60), 3) := by decide +kernel
theorem dX8_dialFor_88 : decode cX8_dialFor 88 = .ok (.iload_n 3, 1) := by decide +kernel
theorem dX8_dialFor_89 : decode cX8_dialFor 89 = .ok (.ireturn, 1) := by decide +kernel
set_option maxRecDepth 20000 in
theorem ggX8_stale_X8_isOne : GoodIn wsX8_stale wsX8_isOne := goodIn_r _ [7, 8, 9, 6, 10] (by decide +kernel) (by decide +kernel)
set_option maxRecDepth 20000 in
theorem gX8_stale_X8_isOne : GoodIn wsX8_stale (va_wsS RX8 60 yX8_isOne wsX8_isOne) := goodIn_app (goodIn_of _ (by decide +kernel)) ggX8_stale_X8_isOne
set_option maxRecDepth 20000 in
theorem ggX8_stale_X8_amountOf : GoodIn wsX8_stale wsX8_amountOf := goodIn_r _ [13] (by decide +kernel) (by decide +kernel)
set_option maxRecDepth 20000 in
theorem gX8_stale_X8_amountOf : GoodIn wsX8_stale (va_wsS RX8 47 yX8_amountOf wsX8_amountOf) := goodIn_app (goodIn_of _ (by decide +kernel)) ggX8_stale_X8_amountOf
set_option maxRecDepth 20000 in
theorem ggX8_stale_X8_kindOf : GoodIn wsX8_stale wsX8_kindOf := goodIn_r _ [16] (by decide +kernel) (by decide +kernel)
set_option maxRecDepth 20000 in
theorem gX8_stale_X8_kindOf : GoodIn wsX8_stale (va_wsS RX8 40 yX8_kindOf wsX8_kindOf) := goodIn_app (goodIn_of _ (by decide +kernel)) ggX8_stale_X8_kindOf
set_option maxRecDepth 20000 in
theorem ggX8_stale_X8_burrIn : GoodIn wsX8_stale wsX8_burrIn := goodIn_r _ [19] (by decide +kernel) (by decide +kernel)
set_option maxRecDepth 20000 in
theorem gX8_stale_X8_burrIn : GoodIn wsX8_stale (va_wsS RX8 103 yX8_burrIn wsX8_burrIn) := goodIn_app (goodIn_of _ (by decide +kernel)) ggX8_stale_X8_burrIn
set_option maxRecDepth 20000 in
theorem ggX8_stale_X8_gapOf : GoodIn wsX8_stale wsX8_gapOf := goodIn_r _ [22] (by decide +kernel) (by decide +kernel)
set_option maxRecDepth 20000 in
theorem gX8_stale_X8_gapOf : GoodIn wsX8_stale (va_wsS RX8 44 yX8_gapOf wsX8_gapOf) := goodIn_app (goodIn_of _ (by decide +kernel)) ggX8_stale_X8_gapOf
set_option maxRecDepth 20000 in
theorem ggX8_stale_X8_gap : GoodIn wsX8_stale wsX8_gap := goodIn_r _ [26, 27, 28, 29, 6, 30, 2, 31, 32, 33, 34, 35, 36, 37, 38, 39, 40, 41, 42, 43, 44, 45, 46, 47, 48] (by decide +kernel) (by decide +kernel)
set_option maxRecDepth 20000 in
theorem gX8_stale_X8_gap : GoodIn wsX8_stale (wsV RX8 73 RX8 yX8_gap wsX8_gap) := goodIn_app (goodIn_of _ (by decide +kernel)) ggX8_stale_X8_gap
theorem dX8_stale_0 : decode cX8_stale 0 = .ok (.iload_n 1, 1) := by decide +kernel
theorem dX8_stale_1 : decode cX8_stale 1 = .ok (.invokestatic 60, 3) := by decide +kernel
theorem dX8_stale_4 : decode cX8_stale 4 = .ok (.ifCond .ne 6, 3) := by decide +kernel
theorem dX8_stale_7 : decode cX8_stale 7 = .ok (.ldc 64, 2) := by decide +kernel
theorem dX8_stale_9 : decode cX8_stale 9 = .ok (.ireturn, 1) := by decide +kernel
theorem dX8_stale_10 : decode cX8_stale 10 = .ok (.aload_n 0, 1) := by decide +kernel
theorem dX8_stale_11 : decode cX8_stale 11 = .ok (.getfield 7, 3) := by decide +kernel
theorem dX8_stale_14 : decode cX8_stale 14 = .ok (.bipush 21, 2) := by decide +kernel
theorem dX8_stale_16 : decode cX8_stale 16 = .ok (.iaload, 1) := by decide +kernel
theorem dX8_stale_17 : decode cX8_stale 17 = .ok (.ifCond .ne 6, 3) := by decide +kernel
theorem dX8_stale_20 : decode cX8_stale 20 = .ok (.ldc 79, 2) := by decide +kernel
theorem dX8_stale_22 : decode cX8_stale 22 = .ok (.ireturn, 1) := by decide +kernel
theorem dX8_stale_23 : decode cX8_stale 23 = .ok (.iconst 0, 1) := by decide +kernel
theorem dX8_stale_24 : decode cX8_stale 24 = .ok (.istore_n 2, 1) := by decide +kernel
theorem dX8_stale_25 : decode cX8_stale 25 = .ok (.iconst 0, 1) := by decide +kernel
theorem dX8_stale_26 : decode cX8_stale 26 = .ok (.istore_n 3, 1) := by decide +kernel
theorem dX8_stale_27 : decode cX8_stale 27 = .ok (.iconst 0, 1) := by decide +kernel
theorem dX8_stale_28 : decode cX8_stale 28 = .ok (.istore 4, 2) := by decide +kernel
theorem dX8_stale_30 : decode cX8_stale 30 = .ok (.iload 4, 2) := by decide +kernel
theorem dX8_stale_32 : decode cX8_stale 32 = .ok (.aload_n 0, 1) := by decide +kernel
theorem dX8_stale_33 : decode cX8_stale 33 = .ok (.getfield 7, 3) := by decide +kernel
theorem dX8_stale_36 : decode cX8_stale 36 = .ok (.bipush 34, 2) := by decide +kernel
theorem dX8_stale_38 : decode cX8_stale 38 = .ok (.iaload, 1) := by decide +kernel
theorem dX8_stale_39 : decode cX8_stale 39 = .ok (.if_icmp .ge 72, 3) := by decide +kernel
theorem dX8_stale_42 : decode cX8_stale 42 = .ok (.aload_n 0, 1) := by decide +kernel
theorem dX8_stale_43 : decode cX8_stale 43 = .ok (.getfield 7, 3) := by decide +kernel
theorem dX8_stale_46 : decode cX8_stale 46 = .ok (.bipush 35, 2) := by decide +kernel
theorem dX8_stale_48 : decode cX8_stale 48 = .ok (.iload 4, 2) := by decide +kernel
theorem dX8_stale_50 : decode cX8_stale 50 = .ok (.iadd, 1) := by decide +kernel
theorem dX8_stale_51 : decode cX8_stale 51 = .ok (.iaload, 1) := by decide +kernel
theorem dX8_stale_52 : decode cX8_stale 52 = .ok (.istore 5, 2) := by decide +kernel
theorem dX8_stale_54 : decode cX8_stale 54 = .ok (.iload_n 2, 1) := by decide +kernel
theorem dX8_stale_55 : decode cX8_stale 55 = .ok (.iload 5, 2) := by decide +kernel
theorem dX8_stale_57 : decode cX8_stale 57 = .ok (.invokestatic 47, 3) := by decide +kernel
theorem dX8_stale_60 : decode cX8_stale 60 = .ok (.iadd, 1) := by decide +kernel
theorem dX8_stale_61 : decode cX8_stale 61 = .ok (.istore_n 2, 1) := by decide +kernel
theorem dX8_stale_62 : decode cX8_stale 62 = .ok (.iload 5, 2) := by decide +kernel
theorem dX8_stale_64 : decode cX8_stale 64 = .ok (.invokestatic 40, 3) := by decide +kernel
theorem dX8_stale_67 : decode cX8_stale 67 = .ok (.aload_n 0, 1) := by decide +kernel
theorem dX8_stale_68 : decode cX8_stale 68 = .ok (.getfield 7, 3) := by decide +kernel
theorem dX8_stale_71 : decode cX8_stale 71 = .ok (.bipush 22, 2) := by decide +kernel
theorem dX8_stale_73 : decode cX8_stale 73 = .ok (.iaload, 1) := by decide +kernel
theorem dX8_stale_74 : decode cX8_stale 74 = .ok (.if_icmp .ne 25, 3) := by decide +kernel
theorem dX8_stale_77 : decode cX8_stale 77 = .ok (.iload 5, 2) := by decide +kernel
theorem dX8_stale_79 : decode cX8_stale 79 = .ok (.invokestatic 103, 3) := by decide +kernel
theorem dX8_stale_82 : decode cX8_stale 82 = .ok (.iload_n 1, 1) := by decide +kernel
theorem dX8_stale_83 : decode cX8_stale 83 = .ok (.if_icmp .ne 16, 3) := by decide +kernel
theorem dX8_stale_86 : decode cX8_stale 86 = .ok (.iload 5, 2) := by decide +kernel
theorem dX8_stale_88 : decode cX8_stale 88 = .ok (.invokestatic 44, 3) := by decide +kernel
theorem dX8_stale_91 : decode cX8_stale 91 = .ok (.aload_n 0, 1) := by decide +kernel
theorem dX8_stale_92 : decode cX8_stale 92 = .ok (.iload_n 1, 1) := by decide +kernel
theorem dX8_stale_93 : decode cX8_stale 93 = .ok (.invokevirtual 73, 3) := by decide +kernel
theorem dX8_stale_96 : decode cX8_stale 96 = .ok (.if_icmp .eq 7, 3) := by decide +kernel
theorem dX8_stale_99 : decode cX8_stale 99 = .ok (.iload_n 2, 1) := by decide +kernel
theorem dX8_stale_100 : decode cX8_stale 100 = .ok (.goto 4, 3) := by decide +kernel
theorem dX8_stale_103 : decode cX8_stale 103 = .ok (.iload_n 3, 1) := by decide +kernel
theorem dX8_stale_104 : decode cX8_stale 104 = .ok (.istore_n 3, 1) := by decide +kernel
theorem dX8_stale_105 : decode cX8_stale 105 = .ok (.iinc 4 1, 3) := by decide +kernel
theorem dX8_stale_108 : decode cX8_stale 108 = .ok (.goto (-78), 3) := by decide +kernel
theorem dX8_stale_111 : decode cX8_stale 111 = .ok (.iload_n 3, 1) := by decide +kernel
theorem dX8_stale_112 : decode cX8_stale 112 = .ok (.ireturn, 1) := by decide +kernel
set_option maxRecDepth 20000 in
theorem ggX8_coolAfter_X8_isOne : GoodIn wsX8_coolAfter wsX8_isOne := goodIn_r _ [6, 7, 8, 5, 9] (by decide +kernel) (by decide +kernel)
set_option maxRecDepth 20000 in
theorem gX8_coolAfter_X8_isOne : GoodIn wsX8_coolAfter (va_wsS RX8 60 yX8_isOne wsX8_isOne) := goodIn_app (goodIn_of _ (by decide +kernel)) ggX8_coolAfter_X8_isOne
set_option maxRecDepth 20000 in
theorem ggX8_coolAfter_X8_in : GoodIn wsX8_coolAfter wsX8_in := goodIn_r _ [9] (by decide +kernel) (by decide +kernel)
set_option maxRecDepth 20000 in
theorem gX8_coolAfter_X8_in : GoodIn wsX8_coolAfter (va_wsS RX8 28 yX8_in wsX8_in) := goodIn_app (goodIn_of _ (by decide +kernel)) ggX8_coolAfter_X8_in
set_option maxRecDepth 20000 in
theorem ggX8_coolAfter_X8_ofBurr : GoodIn wsX8_coolAfter wsX8_ofBurr := goodIn_r _ [13, 2, 17, 18, 19, 20, 21, 22, 23, 24, 25, 26, 27, 28, 29, 30, 31] (by decide +kernel) (by decide +kernel)
set_option maxRecDepth 20000 in
theorem gX8_coolAfter_X8_ofBurr : GoodIn wsX8_coolAfter (wsV RX8 50 RX8 yX8_ofBurr wsX8_ofBurr) := goodIn_app (goodIn_of _ (by decide +kernel)) ggX8_coolAfter_X8_ofBurr
set_option maxRecDepth 20000 in
theorem ggX8_coolAfter_X8_fall : GoodIn wsX8_coolAfter wsX8_fall := goodIn_r _ [16] (by decide +kernel) (by decide +kernel)
set_option maxRecDepth 20000 in
theorem gX8_coolAfter_X8_fall : GoodIn wsX8_coolAfter (va_wsS RX8 57 yX8_fall wsX8_fall) := goodIn_app (goodIn_of _ (by decide +kernel)) ggX8_coolAfter_X8_fall
theorem dX8_coolAfter_0 : decode cX8_coolAfter 0 = .ok (.iload_n 1, 1) := by decide +kernel
theorem dX8_coolAfter_1 : decode cX8_coolAfter 1 = .ok (.invokestatic 60, 3) := by decide +kernel
theorem dX8_coolAfter_4 : decode cX8_coolAfter 4 = .ok (.ifCond .eq 14, 3) := by decide +kernel
theorem dX8_coolAfter_7 : decode cX8_coolAfter 7 = .ok (.iload_n 2, 1) := by decide +kernel
theorem dX8_coolAfter_8 : decode cX8_coolAfter 8 = .ok (.iconst 0, 1) := by decide +kernel
theorem dX8_coolAfter_9 : decode cX8_coolAfter 9 = .ok (.sipush 300, 3) := by decide +kernel
theorem dX8_coolAfter_12 : decode cX8_coolAfter 12 = .ok (.invokestatic 28, 3) := by decide +kernel
theorem dX8_coolAfter_15 : decode cX8_coolAfter 15 = .ok (.ifCond .ne 6, 3) := by decide +kernel
theorem dX8_coolAfter_18 : decode cX8_coolAfter 18 = .ok (.ldc 64, 2) := by decide +kernel
theorem dX8_coolAfter_20 : decode cX8_coolAfter 20 = .ok (.ireturn, 1) := by decide +kernel
theorem dX8_coolAfter_21 : decode cX8_coolAfter 21 = .ok (.iconst 0, 1) := by decide +kernel
theorem dX8_coolAfter_22 : decode cX8_coolAfter 22 = .ok (.istore_n 3, 1) := by decide +kernel
theorem dX8_coolAfter_23 : decode cX8_coolAfter 23 = .ok (.aload_n 0, 1) := by decide +kernel
theorem dX8_coolAfter_24 : decode cX8_coolAfter 24 = .ok (.iload_n 1, 1) := by decide +kernel
theorem dX8_coolAfter_25 : decode cX8_coolAfter 25 = .ok (.iconst 1, 1) := by decide +kernel
theorem dX8_coolAfter_26 : decode cX8_coolAfter 26 = .ok (.invokevirtual 50, 3) := by decide +kernel
theorem dX8_coolAfter_29 : decode cX8_coolAfter 29 = .ok (.istore 4, 2) := by decide +kernel
theorem dX8_coolAfter_31 : decode cX8_coolAfter 31 = .ok (.iload 4, 2) := by decide +kernel
theorem dX8_coolAfter_33 : decode cX8_coolAfter 33 = .ok (.iload_n 2, 1) := by decide +kernel
theorem dX8_coolAfter_34 : decode cX8_coolAfter 34 = .ok (.if_icmp .le 37, 3) := by decide +kernel
theorem dX8_coolAfter_37 : decode cX8_coolAfter 37 = .ok (.iinc 3 1, 3) := by decide +kernel
theorem dX8_coolAfter_40 : decode cX8_coolAfter 40 = .ok (.iload 4, 2) := by decide +kernel
theorem dX8_coolAfter_42 : decode cX8_coolAfter 42 = .ok (.aload_n 0, 1) := by decide +kernel
theorem dX8_coolAfter_43 : decode cX8_coolAfter 43 = .ok (.getfield 7, 3) := by decide +kernel
theorem dX8_coolAfter_46 : decode cX8_coolAfter 46 = .ok (.iconst 0, 1) := by decide +kernel
theorem dX8_coolAfter_47 : decode cX8_coolAfter 47 = .ok (.iaload, 1) := by decide +kernel
theorem dX8_coolAfter_48 : decode cX8_coolAfter 48 = .ok (.iload_n 3, 1) := by decide +kernel
theorem dX8_coolAfter_49 : decode cX8_coolAfter 49 = .ok (.iadd, 1) := by decide +kernel
theorem dX8_coolAfter_50 : decode cX8_coolAfter 50 = .ok (.bipush 10, 2) := by decide +kernel
theorem dX8_coolAfter_52 : decode cX8_coolAfter 52 = .ok (.irem, 1) := by decide +kernel
theorem dX8_coolAfter_53 : decode cX8_coolAfter 53 = .ok (.ifCond .ne 11, 3) := by decide +kernel
theorem dX8_coolAfter_56 : decode cX8_coolAfter 56 = .ok (.iload 4, 2) := by decide +kernel
theorem dX8_coolAfter_58 : decode cX8_coolAfter 58 = .ok (.invokestatic 57, 3) := by decide +kernel
theorem dX8_coolAfter_61 : decode cX8_coolAfter 61 = .ok (.goto 4, 3) := by decide +kernel
theorem dX8_coolAfter_64 : decode cX8_coolAfter 64 = .ok (.iconst 0, 1) := by decide +kernel
theorem dX8_coolAfter_65 : decode cX8_coolAfter 65 = .ok (.isub, 1) := by decide +kernel
theorem dX8_coolAfter_66 : decode cX8_coolAfter 66 = .ok (.istore 4, 2) := by decide +kernel
theorem dX8_coolAfter_68 : decode cX8_coolAfter 68 = .ok (.goto (-37), 3) := by decide +kernel
theorem dX8_coolAfter_71 : decode cX8_coolAfter 71 = .ok (.iload_n 3, 1) := by decide +kernel
theorem dX8_coolAfter_72 : decode cX8_coolAfter 72 = .ok (.ireturn, 1) := by decide +kernel
set_option maxRecDepth 20000 in
theorem ggX8_count_X8_hopper : GoodIn wsX8_count wsX8_hopper := goodIn_r _ [9, 1, 20, 21, 22, 23, 24, 25, 26, 27, 28, 29, 30, 31, 32, 33, 34] (by decide +kernel) (by decide +kernel)
set_option maxRecDepth 20000 in
theorem gX8_count_X8_hopper : GoodIn wsX8_count (wsV RX8 65 RX8 yX8_hopper wsX8_hopper) := goodIn_app (goodIn_of _ (by decide +kernel)) ggX8_count_X8_hopper
set_option maxRecDepth 20000 in
theorem ggX8_count_X8_amounts : GoodIn wsX8_count wsX8_amounts := goodIn_r _ [13, 1, 14, 15, 8, 16, 20, 21, 22, 23, 24, 25, 26, 27, 28, 29, 30, 31, 32, 33, 34] (by decide +kernel) (by decide +kernel)
set_option maxRecDepth 20000 in
theorem gX8_count_X8_amounts : GoodIn wsX8_count (wsV RX8 76 RX8 yX8_amounts wsX8_amounts) := goodIn_app (goodIn_of _ (by decide +kernel)) ggX8_count_X8_amounts
set_option maxRecDepth 20000 in
theorem ggX8_count_X8_in : GoodIn wsX8_count wsX8_in := goodIn_r _ [19] (by decide +kernel) (by decide +kernel)
set_option maxRecDepth 20000 in
theorem gX8_count_X8_in : GoodIn wsX8_count (va_wsS RX8 28 yX8_in wsX8_in) := goodIn_app (goodIn_of _ (by decide +kernel)) ggX8_count_X8_in
theorem dX8_count_0 : decode cX8_count 0 = .ok (.iload_n 1, 1) := by decide +kernel
theorem dX8_count_1 : decode cX8_count 1 = .ok (.tableswitch 117 0 11 #[63, 63, 63, 63, 63, 70, 75, 84, 95, 95, 107, 112], 63) := by decide +kernel
theorem dX8_count_64 : decode cX8_count 64 = .ok (.aload_n 0, 1) := by decide +kernel
theorem dX8_count_65 : decode cX8_count 65 = .ok (.getfield 7, 3) := by decide +kernel
theorem dX8_count_68 : decode cX8_count 68 = .ok (.iload_n 1, 1) := by decide +kernel
theorem dX8_count_69 : decode cX8_count 69 = .ok (.iaload, 1) := by decide +kernel
theorem dX8_count_70 : decode cX8_count 70 = .ok (.ireturn, 1) := by decide +kernel
theorem dX8_count_71 : decode cX8_count 71 = .ok (.aload_n 0, 1) := by decide +kernel
theorem dX8_count_72 : decode cX8_count 72 = .ok (.invokevirtual 65, 3) := by decide +kernel
theorem dX8_count_75 : decode cX8_count 75 = .ok (.ireturn, 1) := by decide +kernel
theorem dX8_count_76 : decode cX8_count 76 = .ok (.aload_n 0, 1) := by decide +kernel
theorem dX8_count_77 : decode cX8_count 77 = .ok (.bipush 34, 2) := by decide +kernel
theorem dX8_count_79 : decode cX8_count 79 = .ok (.bipush 35, 2) := by decide +kernel
theorem dX8_count_81 : decode cX8_count 81 = .ok (.invokevirtual 76, 3) := by decide +kernel
theorem dX8_count_84 : decode cX8_count 84 = .ok (.ireturn, 1) := by decide +kernel
theorem dX8_count_85 : decode cX8_count 85 = .ok (.aload_n 0, 1) := by decide +kernel
theorem dX8_count_86 : decode cX8_count 86 = .ok (.sipush 145, 3) := by decide +kernel
theorem dX8_count_89 : decode cX8_count 89 = .ok (.sipush 146, 3) := by decide +kernel
theorem dX8_count_92 : decode cX8_count 92 = .ok (.invokevirtual 76, 3) := by decide +kernel
theorem dX8_count_95 : decode cX8_count 95 = .ok (.ireturn, 1) := by decide +kernel
theorem dX8_count_96 : decode cX8_count 96 = .ok (.aload_n 0, 1) := by decide +kernel
theorem dX8_count_97 : decode cX8_count 97 = .ok (.getfield 7, 3) := by decide +kernel
theorem dX8_count_100 : decode cX8_count 100 = .ok (.iconst 5, 1) := by decide +kernel
theorem dX8_count_101 : decode cX8_count 101 = .ok (.iload_n 1, 1) := by decide +kernel
theorem dX8_count_102 : decode cX8_count 102 = .ok (.iadd, 1) := by decide +kernel
theorem dX8_count_103 : decode cX8_count 103 = .ok (.bipush 8, 2) := by decide +kernel
theorem dX8_count_105 : decode cX8_count 105 = .ok (.isub, 1) := by decide +kernel
theorem dX8_count_106 : decode cX8_count 106 = .ok (.iaload, 1) := by decide +kernel
theorem dX8_count_107 : decode cX8_count 107 = .ok (.ireturn, 1) := by decide +kernel
theorem dX8_count_108 : decode cX8_count 108 = .ok (.aload_n 0, 1) := by decide +kernel
theorem dX8_count_109 : decode cX8_count 109 = .ok (.getfield 36, 3) := by decide +kernel
theorem dX8_count_112 : decode cX8_count 112 = .ok (.ireturn, 1) := by decide +kernel
theorem dX8_count_113 : decode cX8_count 113 = .ok (.aload_n 0, 1) := by decide +kernel
theorem dX8_count_114 : decode cX8_count 114 = .ok (.getfield 122, 3) := by decide +kernel
theorem dX8_count_117 : decode cX8_count 117 = .ok (.ireturn, 1) := by decide +kernel
theorem dX8_count_118 : decode cX8_count 118 = .ok (.iload_n 1, 1) := by decide +kernel
theorem dX8_count_119 : decode cX8_count 119 = .ok (.bipush 20, 2) := by decide +kernel
theorem dX8_count_121 : decode cX8_count 121 = .ok (.bipush 25, 2) := by decide +kernel
theorem dX8_count_123 : decode cX8_count 123 = .ok (.invokestatic 28, 3) := by decide +kernel
theorem dX8_count_126 : decode cX8_count 126 = .ok (.ifCond .eq 18, 3) := by decide +kernel
theorem dX8_count_129 : decode cX8_count 129 = .ok (.aload_n 0, 1) := by decide +kernel
theorem dX8_count_130 : decode cX8_count 130 = .ok (.getfield 7, 3) := by decide +kernel
theorem dX8_count_133 : decode cX8_count 133 = .ok (.bipush 7, 2) := by decide +kernel
theorem dX8_count_135 : decode cX8_count 135 = .ok (.iload_n 1, 1) := by decide +kernel
theorem dX8_count_136 : decode cX8_count 136 = .ok (.iadd, 1) := by decide +kernel
theorem dX8_count_137 : decode cX8_count 137 = .ok (.bipush 20, 2) := by decide +kernel
theorem dX8_count_139 : decode cX8_count 139 = .ok (.isub, 1) := by decide +kernel
theorem dX8_count_140 : decode cX8_count 140 = .ok (.iaload, 1) := by decide +kernel
theorem dX8_count_141 : decode cX8_count 141 = .ok (.goto 5, 3) := by decide +kernel
theorem dX8_count_144 : decode cX8_count 144 = .ok (.ldc 64, 2) := by decide +kernel
theorem dX8_count_146 : decode cX8_count 146 = .ok (.ireturn, 1) := by decide +kernel
theorem dX8_undo_0 : decode cX8_undo 0 = .ok (.aload_n 0, 1) := by decide +kernel
theorem dX8_undo_1 : decode cX8_undo 1 = .ok (.getfield 36, 3) := by decide +kernel
theorem dX8_undo_4 : decode cX8_undo 4 = .ok (.ifCond .ne 6, 3) := by decide +kernel
theorem dX8_undo_7 : decode cX8_undo 7 = .ok (.ldc 79, 2) := by decide +kernel
theorem dX8_undo_9 : decode cX8_undo 9 = .ok (.ireturn, 1) := by decide +kernel
theorem dX8_undo_10 : decode cX8_undo 10 = .ok (.aload_n 0, 1) := by decide +kernel
theorem dX8_undo_11 : decode cX8_undo 11 = .ok (.dup, 1) := by decide +kernel
theorem dX8_undo_12 : decode cX8_undo 12 = .ok (.getfield 36, 3) := by decide +kernel
theorem dX8_undo_15 : decode cX8_undo 15 = .ok (.iconst 1, 1) := by decide +kernel
theorem dX8_undo_16 : decode cX8_undo 16 = .ok (.isub, 1) := by decide +kernel
theorem dX8_undo_17 : decode cX8_undo 17 = .ok (.putfield 36, 3) := by decide +kernel
theorem dX8_undo_20 : decode cX8_undo 20 = .ok (.iconst 0, 1) := by decide +kernel
theorem dX8_undo_21 : decode cX8_undo 21 = .ok (.istore_n 1, 1) := by decide +kernel
theorem dX8_undo_22 : decode cX8_undo 22 = .ok (.iload_n 1, 1) := by decide +kernel
theorem dX8_undo_23 : decode cX8_undo 23 = .ok (.sipush 631, 3) := by decide +kernel
theorem dX8_undo_26 : decode cX8_undo 26 = .ok (.if_icmp .ge 30, 3) := by decide +kernel
theorem dX8_undo_29 : decode cX8_undo 29 = .ok (.aload_n 0, 1) := by decide +kernel
theorem dX8_undo_30 : decode cX8_undo 30 = .ok (.getfield 7, 3) := by decide +kernel
theorem dX8_undo_33 : decode cX8_undo 33 = .ok (.iload_n 1, 1) := by decide +kernel
theorem dX8_undo_34 : decode cX8_undo 34 = .ok (.aload_n 0, 1) := by decide +kernel
theorem dX8_undo_35 : decode cX8_undo 35 = .ok (.getfield 13, 3) := by decide +kernel
theorem dX8_undo_38 : decode cX8_undo 38 = .ok (.sipush 631, 3) := by decide +kernel
theorem dX8_undo_41 : decode cX8_undo 41 = .ok (.aload_n 0, 1) := by decide +kernel
theorem dX8_undo_42 : decode cX8_undo 42 = .ok (.getfield 36, 3) := by decide +kernel
theorem dX8_undo_45 : decode cX8_undo 45 = .ok (.imul, 1) := by decide +kernel
theorem dX8_undo_46 : decode cX8_undo 46 = .ok (.iload_n 1, 1) := by decide +kernel
theorem dX8_undo_47 : decode cX8_undo 47 = .ok (.iadd, 1) := by decide +kernel
theorem dX8_undo_48 : decode cX8_undo 48 = .ok (.iaload, 1) := by decide +kernel
theorem dX8_undo_49 : decode cX8_undo 49 = .ok (.iastore, 1) := by decide +kernel
theorem dX8_undo_50 : decode cX8_undo 50 = .ok (.iinc 1 1, 3) := by decide +kernel
theorem dX8_undo_53 : decode cX8_undo 53 = .ok (.goto (-31), 3) := by decide +kernel
theorem dX8_undo_56 : decode cX8_undo 56 = .ok (.aload_n 0, 1) := by decide +kernel
theorem dX8_undo_57 : decode cX8_undo 57 = .ok (.getfield 36, 3) := by decide +kernel
theorem dX8_undo_60 : decode cX8_undo 60 = .ok (.ireturn, 1) := by decide +kernel
set_option maxRecDepth 20000 in
theorem ggX8_type_X8_in : GoodIn wsX8_type wsX8_in := goodIn_r _ [8] (by decide +kernel) (by decide +kernel)
set_option maxRecDepth 20000 in
theorem gX8_type_X8_in : GoodIn wsX8_type (va_wsS RX8 28 yX8_in wsX8_in) := goodIn_app (goodIn_of _ (by decide +kernel)) ggX8_type_X8_in
theorem dX8_type_0 : decode cX8_type 0 = .ok (.iload_n 1, 1) := by decide +kernel
theorem dX8_type_1 : decode cX8_type 1 = .ok (.bipush 32, 2) := by decide +kernel
theorem dX8_type_3 : decode cX8_type 3 = .ok (.bipush 126, 2) := by decide +kernel
theorem dX8_type_5 : decode cX8_type 5 = .ok (.invokestatic 28, 3) := by decide +kernel
theorem dX8_type_8 : decode cX8_type 8 = .ok (.ifCond .ne 6, 3) := by decide +kernel
theorem dX8_type_11 : decode cX8_type 11 = .ok (.ldc 64, 2) := by decide +kernel
theorem dX8_type_13 : decode cX8_type 13 = .ok (.ireturn, 1) := by decide +kernel
theorem dX8_type_14 : decode cX8_type 14 = .ok (.aload_n 0, 1) := by decide +kernel
theorem dX8_type_15 : decode cX8_type 15 = .ok (.getfield 122, 3) := by decide +kernel
theorem dX8_type_18 : decode cX8_type 18 = .ok (.bipush 60, 2) := by decide +kernel
theorem dX8_type_20 : decode cX8_type 20 = .ok (.if_icmp .ne 6, 3) := by decide +kernel
theorem dX8_type_23 : decode cX8_type 23 = .ok (.ldc 69, 2) := by decide +kernel
theorem dX8_type_25 : decode cX8_type 25 = .ok (.ireturn, 1) := by decide +kernel
theorem dX8_type_26 : decode cX8_type 26 = .ok (.aload_n 0, 1) := by decide +kernel
theorem dX8_type_27 : decode cX8_type 27 = .ok (.getfield 22, 3) := by decide +kernel
theorem dX8_type_30 : decode cX8_type 30 = .ok (.aload_n 0, 1) := by decide +kernel
theorem dX8_type_31 : decode cX8_type 31 = .ok (.getfield 122, 3) := by decide +kernel
theorem dX8_type_34 : decode cX8_type 34 = .ok (.iload_n 1, 1) := by decide +kernel
theorem dX8_type_35 : decode cX8_type 35 = .ok (.iastore, 1) := by decide +kernel
theorem dX8_type_36 : decode cX8_type 36 = .ok (.aload_n 0, 1) := by decide +kernel
theorem dX8_type_37 : decode cX8_type 37 = .ok (.dup, 1) := by decide +kernel
theorem dX8_type_38 : decode cX8_type 38 = .ok (.getfield 122, 3) := by decide +kernel
theorem dX8_type_41 : decode cX8_type 41 = .ok (.iconst 1, 1) := by decide +kernel
theorem dX8_type_42 : decode cX8_type 42 = .ok (.iadd, 1) := by decide +kernel
theorem dX8_type_43 : decode cX8_type 43 = .ok (.putfield 122, 3) := by decide +kernel
theorem dX8_type_46 : decode cX8_type 46 = .ok (.aload_n 0, 1) := by decide +kernel
theorem dX8_type_47 : decode cX8_type 47 = .ok (.getfield 122, 3) := by decide +kernel
theorem dX8_type_50 : decode cX8_type 50 = .ok (.ireturn, 1) := by decide +kernel
theorem dX8_clearText_0 : decode cX8_clearText 0 = .ok (.aload_n 0, 1) := by decide +kernel
theorem dX8_clearText_1 : decode cX8_clearText 1 = .ok (.getfield 122, 3) := by decide +kernel
theorem dX8_clearText_4 : decode cX8_clearText 4 = .ok (.istore_n 1, 1) := by decide +kernel
theorem dX8_clearText_5 : decode cX8_clearText 5 = .ok (.aload_n 0, 1) := by decide +kernel
theorem dX8_clearText_6 : decode cX8_clearText 6 = .ok (.iconst 0, 1) := by decide +kernel
theorem dX8_clearText_7 : decode cX8_clearText 7 = .ok (.putfield 122, 3) := by decide +kernel
theorem dX8_clearText_10 : decode cX8_clearText 10 = .ok (.iload_n 1, 1) := by decide +kernel
theorem dX8_clearText_11 : decode cX8_clearText 11 = .ok (.ireturn, 1) := by decide +kernel
set_option maxRecDepth 20000 in
theorem ggX8_isAt_X8_in : GoodIn wsX8_isAt wsX8_in := goodIn_r _ [7] (by decide +kernel) (by decide +kernel)
set_option maxRecDepth 20000 in
theorem gX8_isAt_X8_in : GoodIn wsX8_isAt (va_wsS RX8 28 yX8_in wsX8_in) := goodIn_app (goodIn_of _ (by decide +kernel)) ggX8_isAt_X8_in
theorem dX8_isAt_0 : decode cX8_isAt 0 = .ok (.aload_n 0, 1) := by decide +kernel
theorem dX8_isAt_1 : decode cX8_isAt 1 = .ok (.getfield 125, 3) := by decide +kernel
theorem dX8_isAt_4 : decode cX8_isAt 4 = .ok (.aload_n 0, 1) := by decide +kernel
theorem dX8_isAt_5 : decode cX8_isAt 5 = .ok (.getfield 122, 3) := by decide +kernel
theorem dX8_isAt_8 : decode cX8_isAt 8 = .ok (.if_icmp .ge 24, 3) := by decide +kernel
theorem dX8_isAt_11 : decode cX8_isAt 11 = .ok (.aload_n 0, 1) := by decide +kernel
theorem dX8_isAt_12 : decode cX8_isAt 12 = .ok (.getfield 22, 3) := by decide +kernel
theorem dX8_isAt_15 : decode cX8_isAt 15 = .ok (.aload_n 0, 1) := by decide +kernel
theorem dX8_isAt_16 : decode cX8_isAt 16 = .ok (.getfield 125, 3) := by decide +kernel
theorem dX8_isAt_19 : decode cX8_isAt 19 = .ok (.iaload, 1) := by decide +kernel
theorem dX8_isAt_20 : decode cX8_isAt 20 = .ok (.iload_n 1, 1) := by decide +kernel
theorem dX8_isAt_21 : decode cX8_isAt 21 = .ok (.iload_n 2, 1) := by decide +kernel
theorem dX8_isAt_22 : decode cX8_isAt 22 = .ok (.invokestatic 28, 3) := by decide +kernel
theorem dX8_isAt_25 : decode cX8_isAt 25 = .ok (.ifCond .eq 7, 3) := by decide +kernel
theorem dX8_isAt_28 : decode cX8_isAt 28 = .ok (.iconst 1, 1) := by decide +kernel
theorem dX8_isAt_29 : decode cX8_isAt 29 = .ok (.goto 4, 3) := by decide +kernel
theorem dX8_isAt_32 : decode cX8_isAt 32 = .ok (.iconst 0, 1) := by decide +kernel
theorem dX8_isAt_33 : decode cX8_isAt 33 = .ok (.ireturn, 1) := by decide +kernel
set_option maxRecDepth 20000 in
theorem ggX8_sign_X8_isAt : GoodIn wsX8_sign wsX8_isAt := goodIn_r _ [6, 1, 7, 8, 9, 10, 5, 11, 12, 13, 14, 15, 16, 17, 18, 19, 20, 21, 22, 23, 24, 25, 26] (by decide +kernel) (by decide +kernel)
set_option maxRecDepth 20000 in
theorem gX8_sign_X8_isAt : GoodIn wsX8_sign (wsV RX8 128 RX8 yX8_isAt wsX8_isAt) := goodIn_app (goodIn_of _ (by decide +kernel)) ggX8_sign_X8_isAt
theorem dX8_sign_0 : decode cX8_sign 0 = .ok (.aload_n 0, 1) := by decide +kernel
theorem dX8_sign_1 : decode cX8_sign 1 = .ok (.iload_n 1, 1) := by decide +kernel
theorem dX8_sign_2 : decode cX8_sign 2 = .ok (.iload_n 1, 1) := by decide +kernel
theorem dX8_sign_3 : decode cX8_sign 3 = .ok (.invokevirtual 128, 3) := by decide +kernel
theorem dX8_sign_6 : decode cX8_sign 6 = .ok (.istore_n 2, 1) := by decide +kernel
theorem dX8_sign_7 : decode cX8_sign 7 = .ok (.aload_n 0, 1) := by decide +kernel
theorem dX8_sign_8 : decode cX8_sign 8 = .ok (.dup, 1) := by decide +kernel
theorem dX8_sign_9 : decode cX8_sign 9 = .ok (.getfield 125, 3) := by decide +kernel
theorem dX8_sign_12 : decode cX8_sign 12 = .ok (.iload_n 2, 1) := by decide +kernel
theorem dX8_sign_13 : decode cX8_sign 13 = .ok (.ifCond .eq 7, 3) := by decide +kernel
theorem dX8_sign_16 : decode cX8_sign 16 = .ok (.iconst 1, 1) := by decide +kernel
theorem dX8_sign_17 : decode cX8_sign 17 = .ok (.goto 4, 3) := by decide +kernel
theorem dX8_sign_20 : decode cX8_sign 20 = .ok (.iconst 0, 1) := by decide +kernel
theorem dX8_sign_21 : decode cX8_sign 21 = .ok (.iadd, 1) := by decide +kernel
theorem dX8_sign_22 : decode cX8_sign 22 = .ok (.putfield 125, 3) := by decide +kernel
theorem dX8_sign_25 : decode cX8_sign 25 = .ok (.iload_n 2, 1) := by decide +kernel
theorem dX8_sign_26 : decode cX8_sign 26 = .ok (.ireturn, 1) := by decide +kernel
set_option maxRecDepth 20000 in
theorem ggX8_number_X8_isAt : GoodIn wsX8_number wsX8_isAt := goodIn_r _ [8, 1, 9, 3, 10, 11, 7, 12, 13, 14, 15, 16, 17, 18, 19, 20, 21, 22, 23, 24, 25, 26, 27] (by decide +kernel) (by decide +kernel)
set_option maxRecDepth 20000 in
theorem gX8_number_X8_isAt : GoodIn wsX8_number (wsV RX8 128 RX8 yX8_isAt wsX8_isAt) := goodIn_app (goodIn_of _ (by decide +kernel)) ggX8_number_X8_isAt
theorem dX8_number_0 : decode cX8_number 0 = .ok (.aload_n 0, 1) := by decide +kernel
theorem dX8_number_1 : decode cX8_number 1 = .ok (.getfield 125, 3) := by decide +kernel
theorem dX8_number_4 : decode cX8_number 4 = .ok (.istore_n 2, 1) := by decide +kernel
theorem dX8_number_5 : decode cX8_number 5 = .ok (.aload_n 0, 1) := by decide +kernel
theorem dX8_number_6 : decode cX8_number 6 = .ok (.getfield 25, 3) := by decide +kernel
theorem dX8_number_9 : decode cX8_number 9 = .ok (.iload_n 1, 1) := by decide +kernel
theorem dX8_number_10 : decode cX8_number 10 = .ok (.iconst 0, 1) := by decide +kernel
theorem dX8_number_11 : decode cX8_number 11 = .ok (.iastore, 1) := by decide +kernel
theorem dX8_number_12 : decode cX8_number 12 = .ok (.aload_n 0, 1) := by decide +kernel
theorem dX8_number_13 : decode cX8_number 13 = .ok (.bipush 48, 2) := by decide +kernel
theorem dX8_number_15 : decode cX8_number 15 = .ok (.bipush 57, 2) := by decide +kernel
theorem dX8_number_17 : decode cX8_number 17 = .ok (.invokevirtual 128, 3) := by decide +kernel
theorem dX8_number_20 : decode cX8_number 20 = .ok (.ifCond .eq 54, 3) := by decide +kernel
theorem dX8_number_23 : decode cX8_number 23 = .ok (.aload_n 0, 1) := by decide +kernel
theorem dX8_number_24 : decode cX8_number 24 = .ok (.getfield 125, 3) := by decide +kernel
theorem dX8_number_27 : decode cX8_number 27 = .ok (.iload_n 2, 1) := by decide +kernel
theorem dX8_number_28 : decode cX8_number 28 = .ok (.isub, 1) := by decide +kernel
theorem dX8_number_29 : decode cX8_number 29 = .ok (.iconst 3, 1) := by decide +kernel
theorem dX8_number_30 : decode cX8_number 30 = .ok (.if_icmp .ge 44, 3) := by decide +kernel
theorem dX8_number_33 : decode cX8_number 33 = .ok (.aload_n 0, 1) := by decide +kernel
theorem dX8_number_34 : decode cX8_number 34 = .ok (.getfield 25, 3) := by decide +kernel
theorem dX8_number_37 : decode cX8_number 37 = .ok (.iload_n 1, 1) := by decide +kernel
theorem dX8_number_38 : decode cX8_number 38 = .ok (.bipush 10, 2) := by decide +kernel
theorem dX8_number_40 : decode cX8_number 40 = .ok (.aload_n 0, 1) := by decide +kernel
theorem dX8_number_41 : decode cX8_number 41 = .ok (.getfield 25, 3) := by decide +kernel
theorem dX8_number_44 : decode cX8_number 44 = .ok (.iload_n 1, 1) := by decide +kernel
theorem dX8_number_45 : decode cX8_number 45 = .ok (.iaload, 1) := by decide +kernel
theorem dX8_number_46 : decode cX8_number 46 = .ok (.imul, 1) := by decide +kernel
theorem dX8_number_47 : decode cX8_number 47 = .ok (.aload_n 0, 1) := by decide +kernel
theorem dX8_number_48 : decode cX8_number 48 = .ok (.getfield 22, 3) := by decide +kernel
theorem dX8_number_51 : decode cX8_number 51 = .ok (.aload_n 0, 1) := by decide +kernel
theorem dX8_number_52 : decode cX8_number 52 = .ok (.getfield 125, 3) := by decide +kernel
theorem dX8_number_55 : decode cX8_number 55 = .ok (.iaload, 1) := by decide +kernel
theorem dX8_number_56 : decode cX8_number 56 = .ok (.iadd, 1) := by decide +kernel
theorem dX8_number_57 : decode cX8_number 57 = .ok (.bipush 48, 2) := by decide +kernel
theorem dX8_number_59 : decode cX8_number 59 = .ok (.isub, 1) := by decide +kernel
theorem dX8_number_60 : decode cX8_number 60 = .ok (.iastore, 1) := by decide +kernel
theorem dX8_number_61 : decode cX8_number 61 = .ok (.aload_n 0, 1) := by decide +kernel
theorem dX8_number_62 : decode cX8_number 62 = .ok (.dup, 1) := by decide +kernel
theorem dX8_number_63 : decode cX8_number 63 = .ok (.getfield 125, 3) := by decide +kernel
theorem dX8_number_66 : decode cX8_number 66 = .ok (.iconst 1, 1) := by decide +kernel
theorem dX8_number_67 : decode cX8_number 67 = .ok (.iadd, 1) := by decide +kernel
theorem dX8_number_68 : decode cX8_number 68 = .ok (.putfield 125, 3) := by decide +kernel
theorem dX8_number_71 : decode cX8_number 71 = .ok (.goto (-59), 3) := by decide +kernel
theorem dX8_number_74 : decode cX8_number 74 = .ok (.aload_n 0, 1) := by decide +kernel
theorem dX8_number_75 : decode cX8_number 75 = .ok (.getfield 125, 3) := by decide +kernel
theorem dX8_number_78 : decode cX8_number 78 = .ok (.iload_n 2, 1) := by decide +kernel
theorem dX8_number_79 : decode cX8_number 79 = .ok (.if_icmp .le 7, 3) := by decide +kernel
theorem dX8_number_82 : decode cX8_number 82 = .ok (.iconst 1, 1) := by decide +kernel
theorem dX8_number_83 : decode cX8_number 83 = .ok (.goto 4, 3) := by decide +kernel
theorem dX8_number_86 : decode cX8_number 86 = .ok (.iconst 0, 1) := by decide +kernel
theorem dX8_number_87 : decode cX8_number 87 = .ok (.ireturn, 1) := by decide +kernel
set_option maxRecDepth 20000 in
theorem ggX8_reads_X8_isAt : GoodIn wsX8_reads wsX8_isAt := goodIn_r _ [8, 2, 9, 1, 10, 11, 7, 12, 22, 23, 24, 25, 26, 27, 28, 29, 30, 31, 32, 33, 34, 35, 36] (by decide +kernel) (by decide +kernel)
set_option maxRecDepth 20000 in
theorem gX8_reads_X8_isAt : GoodIn wsX8_reads (wsV RX8 128 RX8 yX8_isAt wsX8_isAt) := goodIn_app (goodIn_of _ (by decide +kernel)) ggX8_reads_X8_isAt
set_option maxRecDepth 20000 in
theorem ggX8_reads_X8_sign : GoodIn wsX8_reads wsX8_sign := goodIn_r _ [16, 2, 4, 5, 6, 7, 8, 9, 1, 10, 11, 12, 22, 23, 24, 25, 26, 27, 28, 29, 30, 31, 32, 33, 34, 35, 36] (by decide +kernel) (by decide +kernel)
set_option maxRecDepth 20000 in
theorem gX8_reads_X8_sign : GoodIn wsX8_reads (wsV RX8 135 RX8 yX8_sign wsX8_sign) := goodIn_app (goodIn_of _ (by decide +kernel)) ggX8_reads_X8_sign
set_option maxRecDepth 20000 in
theorem ggX8_reads_X8_number : GoodIn wsX8_reads wsX8_number := goodIn_r _ [20, 2, 21, 1, 4, 5, 6, 7, 8, 9, 10, 11, 12, 22, 23, 24, 25, 26, 27, 28, 29, 30, 31, 32, 33, 34, 35, 36] (by decide +kernel) (by decide +kernel)
set_option maxRecDepth 20000 in
theorem gX8_reads_X8_number : GoodIn wsX8_reads (wsV RX8 138 RX8 yX8_number wsX8_number) := goodIn_app (goodIn_of _ (by decide +kernel)) ggX8_reads_X8_number
theorem dX8_reads_0 : decode cX8_reads 0 = .ok (.aload_n 0, 1) := by decide +kernel
theorem dX8_reads_1 : decode cX8_reads 1 = .ok (.aload_n 0, 1) := by decide +kernel
theorem dX8_reads_2 : decode cX8_reads 2 = .ok (.bipush 33, 2) := by decide +kernel
theorem dX8_reads_4 : decode cX8_reads 4 = .ok (.bipush 126, 2) := by decide +kernel
theorem dX8_reads_6 : decode cX8_reads 6 = .ok (.invokevirtual 128, 3) := by decide +kernel
theorem dX8_reads_9 : decode cX8_reads 9 = .ok (.ifCond .eq 15, 3) := by decide +kernel
theorem dX8_reads_12 : decode cX8_reads 12 = .ok (.aload_n 0, 1) := by decide +kernel
theorem dX8_reads_13 : decode cX8_reads 13 = .ok (.getfield 22, 3) := by decide +kernel
theorem dX8_reads_16 : decode cX8_reads 16 = .ok (.aload_n 0, 1) := by decide +kernel
theorem dX8_reads_17 : decode cX8_reads 17 = .ok (.getfield 125, 3) := by decide +kernel
theorem dX8_reads_20 : decode cX8_reads 20 = .ok (.iaload, 1) := by decide +kernel
theorem dX8_reads_21 : decode cX8_reads 21 = .ok (.goto 4, 3) := by decide +kernel
theorem dX8_reads_24 : decode cX8_reads 24 = .ok (.iconst 0, 1) := by decide +kernel
theorem dX8_reads_25 : decode cX8_reads 25 = .ok (.putfield 132, 3) := by decide +kernel
theorem dX8_reads_28 : decode cX8_reads 28 = .ok (.aload_n 0, 1) := by decide +kernel
theorem dX8_reads_29 : decode cX8_reads 29 = .ok (.getfield 132, 3) := by decide +kernel
theorem dX8_reads_32 : decode cX8_reads 32 = .ok (.bipush 102, 2) := by decide +kernel
theorem dX8_reads_34 : decode cX8_reads 34 = .ok (.if_icmp .eq 21, 3) := by decide +kernel
theorem dX8_reads_37 : decode cX8_reads 37 = .ok (.aload_n 0, 1) := by decide +kernel
theorem dX8_reads_38 : decode cX8_reads 38 = .ok (.getfield 132, 3) := by decide +kernel
theorem dX8_reads_41 : decode cX8_reads 41 = .ok (.bipush 103, 2) := by decide +kernel
theorem dX8_reads_43 : decode cX8_reads 43 = .ok (.if_icmp .eq 12, 3) := by decide +kernel
theorem dX8_reads_46 : decode cX8_reads 46 = .ok (.aload_n 0, 1) := by decide +kernel
theorem dX8_reads_47 : decode cX8_reads 47 = .ok (.getfield 132, 3) := by decide +kernel
theorem dX8_reads_50 : decode cX8_reads 50 = .ok (.bipush 98, 2) := by decide +kernel
theorem dX8_reads_52 : decode cX8_reads 52 = .ok (.if_icmp .ne 7, 3) := by decide +kernel
theorem dX8_reads_55 : decode cX8_reads 55 = .ok (.iconst 1, 1) := by decide +kernel
theorem dX8_reads_56 : decode cX8_reads 56 = .ok (.goto 4, 3) := by decide +kernel
theorem dX8_reads_59 : decode cX8_reads 59 = .ok (.iconst 0, 1) := by decide +kernel
theorem dX8_reads_60 : decode cX8_reads 60 = .ok (.istore_n 1, 1) := by decide +kernel
theorem dX8_reads_61 : decode cX8_reads 61 = .ok (.aload_n 0, 1) := by decide +kernel
theorem dX8_reads_62 : decode cX8_reads 62 = .ok (.getfield 132, 3) := by decide +kernel
theorem dX8_reads_65 : decode cX8_reads 65 = .ok (.bipush 115, 2) := by decide +kernel
theorem dX8_reads_67 : decode cX8_reads 67 = .ok (.if_icmp .eq 12, 3) := by decide +kernel
theorem dX8_reads_70 : decode cX8_reads 70 = .ok (.aload_n 0, 1) := by decide +kernel
theorem dX8_reads_71 : decode cX8_reads 71 = .ok (.getfield 132, 3) := by decide +kernel
theorem dX8_reads_74 : decode cX8_reads 74 = .ok (.bipush 112, 2) := by decide +kernel
theorem dX8_reads_76 : decode cX8_reads 76 = .ok (.if_icmp .ne 7, 3) := by decide +kernel
theorem dX8_reads_79 : decode cX8_reads 79 = .ok (.iconst 1, 1) := by decide +kernel
theorem dX8_reads_80 : decode cX8_reads 80 = .ok (.goto 4, 3) := by decide +kernel
theorem dX8_reads_83 : decode cX8_reads 83 = .ok (.iconst 0, 1) := by decide +kernel
theorem dX8_reads_84 : decode cX8_reads 84 = .ok (.istore_n 2, 1) := by decide +kernel
theorem dX8_reads_85 : decode cX8_reads 85 = .ok (.iload_n 1, 1) := by decide +kernel
theorem dX8_reads_86 : decode cX8_reads 86 = .ok (.ifCond .ne 18, 3) := by decide +kernel
theorem dX8_reads_89 : decode cX8_reads 89 = .ok (.iload_n 2, 1) := by decide +kernel
theorem dX8_reads_90 : decode cX8_reads 90 = .ok (.ifCond .ne 14, 3) := by decide +kernel
theorem dX8_reads_93 : decode cX8_reads 93 = .ok (.aload_n 0, 1) := by decide +kernel
theorem dX8_reads_94 : decode cX8_reads 94 = .ok (.getfield 132, 3) := by decide +kernel
theorem dX8_reads_97 : decode cX8_reads 97 = .ok (.bipush 119, 2) := by decide +kernel
theorem dX8_reads_99 : decode cX8_reads 99 = .ok (.if_icmp .eq 5, 3) := by decide +kernel
theorem dX8_reads_102 : decode cX8_reads 102 = .ok (.iconst 0, 1) := by decide +kernel
theorem dX8_reads_103 : decode cX8_reads 103 = .ok (.ireturn, 1) := by decide +kernel
theorem dX8_reads_104 : decode cX8_reads 104 = .ok (.aload_n 0, 1) := by decide +kernel
theorem dX8_reads_105 : decode cX8_reads 105 = .ok (.dup, 1) := by decide +kernel
theorem dX8_reads_106 : decode cX8_reads 106 = .ok (.getfield 125, 3) := by decide +kernel
theorem dX8_reads_109 : decode cX8_reads 109 = .ok (.iconst 1, 1) := by decide +kernel
theorem dX8_reads_110 : decode cX8_reads 110 = .ok (.iadd, 1) := by decide +kernel
theorem dX8_reads_111 : decode cX8_reads 111 = .ok (.putfield 125, 3) := by decide +kernel
theorem dX8_reads_114 : decode cX8_reads 114 = .ok (.iload_n 2, 1) := by decide +kernel
theorem dX8_reads_115 : decode cX8_reads 115 = .ok (.ifCond .eq 10, 3) := by decide +kernel
theorem dX8_reads_118 : decode cX8_reads 118 = .ok (.aload_n 0, 1) := by decide +kernel
theorem dX8_reads_119 : decode cX8_reads 119 = .ok (.bipush 59, 2) := by decide +kernel
theorem dX8_reads_121 : decode cX8_reads 121 = .ok (.invokevirtual 135, 3) := by decide +kernel
theorem dX8_reads_124 : decode cX8_reads 124 = .ok (.ireturn, 1) := by decide +kernel
theorem dX8_reads_125 : decode cX8_reads 125 = .ok (.aload_n 0, 1) := by decide +kernel
theorem dX8_reads_126 : decode cX8_reads 126 = .ok (.iconst 0, 1) := by decide +kernel
theorem dX8_reads_127 : decode cX8_reads 127 = .ok (.invokevirtual 138, 3) := by decide +kernel
theorem dX8_reads_130 : decode cX8_reads 130 = .ok (.ifCond .eq 37, 3) := by decide +kernel
theorem dX8_reads_133 : decode cX8_reads 133 = .ok (.iload_n 1, 1) := by decide +kernel
theorem dX8_reads_134 : decode cX8_reads 134 = .ok (.ifCond .eq 20, 3) := by decide +kernel
theorem dX8_reads_137 : decode cX8_reads 137 = .ok (.aload_n 0, 1) := by decide +kernel
theorem dX8_reads_138 : decode cX8_reads 138 = .ok (.bipush 44, 2) := by decide +kernel
theorem dX8_reads_140 : decode cX8_reads 140 = .ok (.invokevirtual 135, 3) := by decide +kernel
theorem dX8_reads_143 : decode cX8_reads 143 = .ok (.ifCond .eq 24, 3) := by decide +kernel
theorem dX8_reads_146 : decode cX8_reads 146 = .ok (.aload_n 0, 1) := by decide +kernel
theorem dX8_reads_147 : decode cX8_reads 147 = .ok (.iconst 1, 1) := by decide +kernel
theorem dX8_reads_148 : decode cX8_reads 148 = .ok (.invokevirtual 138, 3) := by decide +kernel
theorem dX8_reads_151 : decode cX8_reads 151 = .ok (.ifCond .eq 16, 3) := by decide +kernel
theorem dX8_reads_154 : decode cX8_reads 154 = .ok (.aload_n 0, 1) := by decide +kernel
theorem dX8_reads_155 : decode cX8_reads 155 = .ok (.bipush 59, 2) := by decide +kernel
theorem dX8_reads_157 : decode cX8_reads 157 = .ok (.invokevirtual 135, 3) := by decide +kernel
theorem dX8_reads_160 : decode cX8_reads 160 = .ok (.ifCond .eq 7, 3) := by decide +kernel
theorem dX8_reads_163 : decode cX8_reads 163 = .ok (.iconst 1, 1) := by decide +kernel
theorem dX8_reads_164 : decode cX8_reads 164 = .ok (.goto 4, 3) := by decide +kernel
theorem dX8_reads_167 : decode cX8_reads 167 = .ok (.iconst 0, 1) := by decide +kernel
theorem dX8_reads_168 : decode cX8_reads 168 = .ok (.ireturn, 1) := by decide +kernel
set_option maxRecDepth 20000 in
theorem ggX8_calls_X8_fill : GoodIn wsX8_calls wsX8_fill := goodIn_r _ [7, 8, 9, 10, 11, 12, 6, 13, 14, 15, 16, 17, 18, 19, 20, 21, 22, 23, 24, 25, 26, 27, 116, 117, 118, 119, 120, 121, 122, 123, 124, 125, 126, 127, 128, 129, 130] (by decide +kernel) (by decide +kernel)
set_option maxRecDepth 20000 in
theorem gX8_calls_X8_fill : GoodIn wsX8_calls (wsV RX8 141 RX8 yX8_fill wsX8_fill) := goodIn_app (goodIn_of _ (by decide +kernel)) ggX8_calls_X8_fill
set_option maxRecDepth 20000 in
theorem ggX8_calls_X8_grind : GoodIn wsX8_calls wsX8_grind := goodIn_r _ [31, 32, 33, 34, 35, 6, 36, 8, 37, 9, 10, 11, 12, 13, 14, 15, 16, 17, 18, 19, 20, 38, 39, 40, 41, 42, 43, 44, 21, 22, 23, 24, 25, 26, 27, 45, 46, 47, 48, 49, 50, 51, 52, 53, 54, 55, 56, 57, 58, 59, 60, 61, 62, 63, 64, 65, 66, 67, 68, 69, 70, 71, 72, 73, 74, 116, 117, 118, 119, 120, 121, 122, 123, 124, 125, 126, 127, 128, 129, 130] (by decide +kernel) (by decide +kernel)
set_option maxRecDepth 20000 in
theorem gX8_calls_X8_grind : GoodIn wsX8_calls (wsV RX8 144 RX8 yX8_grind wsX8_grind) := goodIn_app (goodIn_of _ (by decide +kernel)) ggX8_calls_X8_grind
set_option maxRecDepth 20000 in
theorem ggX8_calls_X8_dial : GoodIn wsX8_calls wsX8_dial := goodIn_r _ [78, 8, 9, 11, 12, 6, 13, 14, 15, 16, 21, 22, 23, 24, 25, 26, 27, 57, 58, 59, 60, 116, 117, 118, 119, 120, 121, 122, 123, 124, 125, 126, 127, 128, 129, 130] (by decide +kernel) (by decide +kernel)
set_option maxRecDepth 20000 in
theorem gX8_calls_X8_dial : GoodIn wsX8_calls (wsV RX8 147 RX8 yX8_dial wsX8_dial) := goodIn_app (goodIn_of _ (by decide +kernel)) ggX8_calls_X8_dial
set_option maxRecDepth 20000 in
theorem ggX8_calls_X8_rest : GoodIn wsX8_calls wsX8_rest := goodIn_r _ [82, 8, 14, 15, 6, 16, 21, 22, 23, 24, 25, 26, 27, 9, 68, 69, 70, 71, 57, 58, 59, 60, 72, 73, 74, 116, 117, 118, 119, 120, 121, 122, 123, 124, 125, 126, 127, 128, 129, 130] (by decide +kernel) (by decide +kernel)
set_option maxRecDepth 20000 in
theorem gX8_calls_X8_rest : GoodIn wsX8_calls (wsV RX8 150 RX8 yX8_rest wsX8_rest) := goodIn_app (goodIn_of _ (by decide +kernel)) ggX8_calls_X8_rest
set_option maxRecDepth 20000 in
theorem ggX8_calls_X8_shot : GoodIn wsX8_calls wsX8_shot := goodIn_r _ [86, 9, 37, 32, 21, 22, 23, 6, 24, 25, 26, 27, 87, 88, 89, 90, 42, 43, 44, 91, 92, 93, 94, 95, 96, 97, 98, 99, 100, 38, 39, 40, 41, 101, 102, 103, 104, 105, 106, 107, 108, 109, 110, 111, 57, 58, 59, 60, 68, 69, 70, 71, 72, 73, 74, 116, 117, 118, 119, 120, 121, 122, 123, 124, 125, 126, 127, 128, 129, 130] (by decide +kernel) (by decide +kernel)
set_option maxRecDepth 20000 in
theorem gX8_calls_X8_shot : GoodIn wsX8_calls (wsV RX8 153 RX8 yX8_shot wsX8_shot) := goodIn_app (goodIn_of _ (by decide +kernel)) ggX8_calls_X8_shot
set_option maxRecDepth 20000 in
theorem ggX8_calls_X8_purge : GoodIn wsX8_calls wsX8_purge := goodIn_r _ [115, 9, 21, 22, 23, 6, 24, 25, 26, 27, 38, 39, 40, 41, 42, 43, 44, 116, 117, 118, 119, 120, 121, 122, 123, 124, 125, 126, 127, 128, 129, 130] (by decide +kernel) (by decide +kernel)
set_option maxRecDepth 20000 in
theorem gX8_calls_X8_purge : GoodIn wsX8_calls (wsV RX8 156 RX8 yX8_purge wsX8_purge) := goodIn_app (goodIn_of _ (by decide +kernel)) ggX8_calls_X8_purge
theorem dX8_calls_0 : decode cX8_calls 0 = .ok (.aload_n 0, 1) := by decide +kernel
theorem dX8_calls_1 : decode cX8_calls 1 = .ok (.getfield 132, 3) := by decide +kernel
theorem dX8_calls_4 : decode cX8_calls 4 = .ok (.lookupswitch 119 #[(98, 86), (102, 52), (103, 69), (115, 114), (119, 103)], 52) := by decide +kernel
theorem dX8_calls_56 : decode cX8_calls 56 = .ok (.aload_n 0, 1) := by decide +kernel
theorem dX8_calls_57 : decode cX8_calls 57 = .ok (.aload_n 0, 1) := by decide +kernel
theorem dX8_calls_58 : decode cX8_calls 58 = .ok (.getfield 25, 3) := by decide +kernel
theorem dX8_calls_61 : decode cX8_calls 61 = .ok (.iconst 0, 1) := by decide +kernel
theorem dX8_calls_62 : decode cX8_calls 62 = .ok (.iaload, 1) := by decide +kernel
theorem dX8_calls_63 : decode cX8_calls 63 = .ok (.aload_n 0, 1) := by decide +kernel
theorem dX8_calls_64 : decode cX8_calls 64 = .ok (.getfield 25, 3) := by decide +kernel
theorem dX8_calls_67 : decode cX8_calls 67 = .ok (.iconst 1, 1) := by decide +kernel
theorem dX8_calls_68 : decode cX8_calls 68 = .ok (.iaload, 1) := by decide +kernel
theorem dX8_calls_69 : decode cX8_calls 69 = .ok (.invokevirtual 141, 3) := by decide +kernel
theorem dX8_calls_72 : decode cX8_calls 72 = .ok (.ireturn, 1) := by decide +kernel
theorem dX8_calls_73 : decode cX8_calls 73 = .ok (.aload_n 0, 1) := by decide +kernel
theorem dX8_calls_74 : decode cX8_calls 74 = .ok (.aload_n 0, 1) := by decide +kernel
theorem dX8_calls_75 : decode cX8_calls 75 = .ok (.getfield 25, 3) := by decide +kernel
theorem dX8_calls_78 : decode cX8_calls 78 = .ok (.iconst 0, 1) := by decide +kernel
theorem dX8_calls_79 : decode cX8_calls 79 = .ok (.iaload, 1) := by decide +kernel
theorem dX8_calls_80 : decode cX8_calls 80 = .ok (.aload_n 0, 1) := by decide +kernel
theorem dX8_calls_81 : decode cX8_calls 81 = .ok (.getfield 25, 3) := by decide +kernel
theorem dX8_calls_84 : decode cX8_calls 84 = .ok (.iconst 1, 1) := by decide +kernel
theorem dX8_calls_85 : decode cX8_calls 85 = .ok (.iaload, 1) := by decide +kernel
theorem dX8_calls_86 : decode cX8_calls 86 = .ok (.invokevirtual 144, 3) := by decide +kernel
theorem dX8_calls_89 : decode cX8_calls 89 = .ok (.ireturn, 1) := by decide +kernel
theorem dX8_calls_90 : decode cX8_calls 90 = .ok (.aload_n 0, 1) := by decide +kernel
theorem dX8_calls_91 : decode cX8_calls 91 = .ok (.aload_n 0, 1) := by decide +kernel
theorem dX8_calls_92 : decode cX8_calls 92 = .ok (.getfield 25, 3) := by decide +kernel
theorem dX8_calls_95 : decode cX8_calls 95 = .ok (.iconst 0, 1) := by decide +kernel
theorem dX8_calls_96 : decode cX8_calls 96 = .ok (.iaload, 1) := by decide +kernel
theorem dX8_calls_97 : decode cX8_calls 97 = .ok (.aload_n 0, 1) := by decide +kernel
theorem dX8_calls_98 : decode cX8_calls 98 = .ok (.getfield 25, 3) := by decide +kernel
theorem dX8_calls_101 : decode cX8_calls 101 = .ok (.iconst 1, 1) := by decide +kernel
theorem dX8_calls_102 : decode cX8_calls 102 = .ok (.iaload, 1) := by decide +kernel
theorem dX8_calls_103 : decode cX8_calls 103 = .ok (.invokevirtual 147, 3) := by decide +kernel
theorem dX8_calls_106 : decode cX8_calls 106 = .ok (.ireturn, 1) := by decide +kernel
theorem dX8_calls_107 : decode cX8_calls 107 = .ok (.aload_n 0, 1) := by decide +kernel
theorem dX8_calls_108 : decode cX8_calls 108 = .ok (.aload_n 0, 1) := by decide +kernel
theorem dX8_calls_109 : decode cX8_calls 109 = .ok (.getfield 25, 3) := by decide +kernel
theorem dX8_calls_112 : decode cX8_calls 112 = .ok (.iconst 0, 1) := by decide +kernel
theorem dX8_calls_113 : decode cX8_calls 113 = .ok (.iaload, 1) := by decide +kernel
theorem dX8_calls_114 : decode cX8_calls 114 = .ok (.invokevirtual 150, 3) := by decide +kernel
theorem dX8_calls_117 : decode cX8_calls 117 = .ok (.ireturn, 1) := by decide +kernel
theorem dX8_calls_118 : decode cX8_calls 118 = .ok (.aload_n 0, 1) := by decide +kernel
theorem dX8_calls_119 : decode cX8_calls 119 = .ok (.invokevirtual 153, 3) := by decide +kernel
theorem dX8_calls_122 : decode cX8_calls 122 = .ok (.ireturn, 1) := by decide +kernel
theorem dX8_calls_123 : decode cX8_calls 123 = .ok (.aload_n 0, 1) := by decide +kernel
theorem dX8_calls_124 : decode cX8_calls 124 = .ok (.invokevirtual 156, 3) := by decide +kernel
theorem dX8_calls_127 : decode cX8_calls 127 = .ok (.ireturn, 1) := by decide +kernel
set_option maxRecDepth 20000 in
theorem ggX8_plays_X8_reads : GoodIn wsX8_plays wsX8_reads := goodIn_r _ [12, 13, 2, 14, 15, 16, 17, 11, 18, 5, 19, 20, 21, 22, 23, 24, 25, 26, 27, 28, 29, 30, 143, 144, 145, 146, 147, 148, 149, 150, 151, 152, 153, 154, 155, 156, 157] (by decide +kernel) (by decide +kernel)
set_option maxRecDepth 20000 in
theorem gX8_plays_X8_reads : GoodIn wsX8_plays (wsV RX8 165 RX8 yX8_reads wsX8_reads) := goodIn_app (goodIn_of _ (by decide +kernel)) ggX8_plays_X8_reads
set_option maxRecDepth 20000 in
theorem ggX8_plays_X8_calls : GoodIn wsX8_plays wsX8_calls := goodIn_r _ [34, 14, 30, 35, 36, 37, 11, 38, 39, 40, 41, 42, 43, 44, 19, 20, 21, 45, 46, 47, 48, 49, 50, 51, 52, 1, 53, 54, 55, 56, 57, 58, 59, 60, 61, 62, 63, 64, 65, 66, 67, 68, 69, 70, 71, 72, 73, 74, 75, 76, 77, 78, 79, 80, 81, 82, 83, 84, 85, 86, 87, 88, 89, 90, 91, 92, 93, 94, 95, 96, 97, 98, 99, 100, 101, 102, 103, 104, 105, 106, 107, 108, 109, 110, 111, 112, 113, 114, 115, 116, 117, 118, 119, 120, 121, 122, 123, 124, 125, 126, 127, 128, 129, 130, 131, 132, 133, 134, 135, 136, 137, 138, 139, 140, 141, 142, 143, 144, 145, 146, 147, 148, 149, 150, 151, 152, 153, 154, 155, 156, 157] (by decide +kernel) (by decide +kernel)
set_option maxRecDepth 20000 in
theorem gX8_plays_X8_calls : GoodIn wsX8_plays (wsV RX8 169 RX8 yX8_calls wsX8_calls) := goodIn_app (goodIn_of _ (by decide +kernel)) ggX8_plays_X8_calls
theorem dX8_plays_0 : decode cX8_plays 0 = .ok (.aload_n 0, 1) := by decide +kernel
theorem dX8_plays_1 : decode cX8_plays 1 = .ok (.iconst 1, 1) := by decide +kernel
theorem dX8_plays_2 : decode cX8_plays 2 = .ok (.putfield 32, 3) := by decide +kernel
theorem dX8_plays_5 : decode cX8_plays 5 = .ok (.aload_n 0, 1) := by decide +kernel
theorem dX8_plays_6 : decode cX8_plays 6 = .ok (.iconst 0, 1) := by decide +kernel
theorem dX8_plays_7 : decode cX8_plays 7 = .ok (.putfield 125, 3) := by decide +kernel
theorem dX8_plays_10 : decode cX8_plays 10 = .ok (.aload_n 0, 1) := by decide +kernel
theorem dX8_plays_11 : decode cX8_plays 11 = .ok (.iconst 0, 1) := by decide +kernel
theorem dX8_plays_12 : decode cX8_plays 12 = .ok (.putfield 159, 3) := by decide +kernel
theorem dX8_plays_15 : decode cX8_plays 15 = .ok (.aload_n 0, 1) := by decide +kernel
theorem dX8_plays_16 : decode cX8_plays 16 = .ok (.iconst 0, 1) := by decide +kernel
theorem dX8_plays_17 : decode cX8_plays 17 = .ok (.putfield 162, 3) := by decide +kernel
theorem dX8_plays_20 : decode cX8_plays 20 = .ok (.iconst 1, 1) := by decide +kernel
theorem dX8_plays_21 : decode cX8_plays 21 = .ok (.istore_n 1, 1) := by decide +kernel
theorem dX8_plays_22 : decode cX8_plays 22 = .ok (.aload_n 0, 1) := by decide +kernel
theorem dX8_plays_23 : decode cX8_plays 23 = .ok (.getfield 125, 3) := by decide +kernel
theorem dX8_plays_26 : decode cX8_plays 26 = .ok (.aload_n 0, 1) := by decide +kernel
theorem dX8_plays_27 : decode cX8_plays 27 = .ok (.getfield 122, 3) := by decide +kernel
theorem dX8_plays_30 : decode cX8_plays 30 = .ok (.if_icmp .ge 94, 3) := by decide +kernel
theorem dX8_plays_33 : decode cX8_plays 33 = .ok (.iload_n 1, 1) := by decide +kernel
theorem dX8_plays_34 : decode cX8_plays 34 = .ok (.ifCond .eq 90, 3) := by decide +kernel
theorem dX8_plays_37 : decode cX8_plays 37 = .ok (.aload_n 0, 1) := by decide +kernel
theorem dX8_plays_38 : decode cX8_plays 38 = .ok (.aload_n 0, 1) := by decide +kernel
theorem dX8_plays_39 : decode cX8_plays 39 = .ok (.getfield 125, 3) := by decide +kernel
theorem dX8_plays_42 : decode cX8_plays 42 = .ok (.putfield 159, 3) := by decide +kernel
theorem dX8_plays_45 : decode cX8_plays 45 = .ok (.aload_n 0, 1) := by decide +kernel
theorem dX8_plays_46 : decode cX8_plays 46 = .ok (.invokevirtual 165, 3) := by decide +kernel
theorem dX8_plays_49 : decode cX8_plays 49 = .ok (.istore_n 2, 1) := by decide +kernel
theorem dX8_plays_50 : decode cX8_plays 50 = .ok (.iload_n 2, 1) := by decide +kernel
theorem dX8_plays_51 : decode cX8_plays 51 = .ok (.ifCond .eq 10, 3) := by decide +kernel
theorem dX8_plays_54 : decode cX8_plays 54 = .ok (.aload_n 0, 1) := by decide +kernel
theorem dX8_plays_55 : decode cX8_plays 55 = .ok (.invokevirtual 169, 3) := by decide +kernel
theorem dX8_plays_58 : decode cX8_plays 58 = .ok (.goto 4, 3) := by decide +kernel
theorem dX8_plays_61 : decode cX8_plays 61 = .ok (.iconst 0, 1) := by decide +kernel
theorem dX8_plays_62 : decode cX8_plays 62 = .ok (.istore_n 3, 1) := by decide +kernel
theorem dX8_plays_63 : decode cX8_plays 63 = .ok (.iload_n 2, 1) := by decide +kernel
theorem dX8_plays_64 : decode cX8_plays 64 = .ok (.ifCond .eq 11, 3) := by decide +kernel
theorem dX8_plays_67 : decode cX8_plays 67 = .ok (.iload_n 3, 1) := by decide +kernel
theorem dX8_plays_68 : decode cX8_plays 68 = .ok (.ifCond .lt 7, 3) := by decide +kernel
theorem dX8_plays_71 : decode cX8_plays 71 = .ok (.iconst 1, 1) := by decide +kernel
theorem dX8_plays_72 : decode cX8_plays 72 = .ok (.goto 4, 3) := by decide +kernel
theorem dX8_plays_75 : decode cX8_plays 75 = .ok (.iconst 0, 1) := by decide +kernel
theorem dX8_plays_76 : decode cX8_plays 76 = .ok (.istore_n 1, 1) := by decide +kernel
theorem dX8_plays_77 : decode cX8_plays 77 = .ok (.aload_n 0, 1) := by decide +kernel
theorem dX8_plays_78 : decode cX8_plays 78 = .ok (.iload_n 2, 1) := by decide +kernel
theorem dX8_plays_79 : decode cX8_plays 79 = .ok (.ifCond .eq 7, 3) := by decide +kernel
theorem dX8_plays_82 : decode cX8_plays 82 = .ok (.iconst 2, 1) := by decide +kernel
theorem dX8_plays_83 : decode cX8_plays 83 = .ok (.goto 4, 3) := by decide +kernel
theorem dX8_plays_86 : decode cX8_plays 86 = .ok (.iconst 1, 1) := by decide +kernel
theorem dX8_plays_87 : decode cX8_plays 87 = .ok (.putfield 172, 3) := by decide +kernel
theorem dX8_plays_90 : decode cX8_plays 90 = .ok (.aload_n 0, 1) := by decide +kernel
theorem dX8_plays_91 : decode cX8_plays 91 = .ok (.iload_n 2, 1) := by decide +kernel
theorem dX8_plays_92 : decode cX8_plays 92 = .ok (.ifCond .eq 7, 3) := by decide +kernel
theorem dX8_plays_95 : decode cX8_plays 95 = .ok (.iload_n 3, 1) := by decide +kernel
theorem dX8_plays_96 : decode cX8_plays 96 = .ok (.goto 12, 3) := by decide +kernel
theorem dX8_plays_99 : decode cX8_plays 99 = .ok (.aload_n 0, 1) := by decide +kernel
theorem dX8_plays_100 : decode cX8_plays 100 = .ok (.getfield 125, 3) := by decide +kernel
theorem dX8_plays_103 : decode cX8_plays 103 = .ok (.aload_n 0, 1) := by decide +kernel
theorem dX8_plays_104 : decode cX8_plays 104 = .ok (.getfield 159, 3) := by decide +kernel
theorem dX8_plays_107 : decode cX8_plays 107 = .ok (.isub, 1) := by decide +kernel
theorem dX8_plays_108 : decode cX8_plays 108 = .ok (.putfield 175, 3) := by decide +kernel
theorem dX8_plays_111 : decode cX8_plays 111 = .ok (.aload_n 0, 1) := by decide +kernel
theorem dX8_plays_112 : decode cX8_plays 112 = .ok (.dup, 1) := by decide +kernel
theorem dX8_plays_113 : decode cX8_plays 113 = .ok (.getfield 162, 3) := by decide +kernel
theorem dX8_plays_116 : decode cX8_plays 116 = .ok (.iconst 1, 1) := by decide +kernel
theorem dX8_plays_117 : decode cX8_plays 117 = .ok (.iadd, 1) := by decide +kernel
theorem dX8_plays_118 : decode cX8_plays 118 = .ok (.putfield 162, 3) := by decide +kernel
theorem dX8_plays_121 : decode cX8_plays 121 = .ok (.goto (-99), 3) := by decide +kernel
theorem dX8_plays_124 : decode cX8_plays 124 = .ok (.aload_n 0, 1) := by decide +kernel
theorem dX8_plays_125 : decode cX8_plays 125 = .ok (.iconst 0, 1) := by decide +kernel
theorem dX8_plays_126 : decode cX8_plays 126 = .ok (.putfield 32, 3) := by decide +kernel
theorem dX8_plays_129 : decode cX8_plays 129 = .ok (.iload_n 1, 1) := by decide +kernel
theorem dX8_plays_130 : decode cX8_plays 130 = .ok (.ireturn, 1) := by decide +kernel
set_option maxRecDepth 20000 in
theorem ggX8_fault_X8_in : GoodIn wsX8_fault wsX8_in := goodIn_r _ [11] (by decide +kernel) (by decide +kernel)
set_option maxRecDepth 20000 in
theorem gX8_fault_X8_in : GoodIn wsX8_fault (va_wsS RX8 28 yX8_in wsX8_in) := goodIn_app (goodIn_of _ (by decide +kernel)) ggX8_fault_X8_in
set_option maxRecDepth 20000 in
theorem ggX8_fault_X8_copies : GoodIn wsX8_fault wsX8_copies := goodIn_r _ [14] (by decide +kernel) (by decide +kernel)
set_option maxRecDepth 20000 in
theorem gX8_fault_X8_copies : GoodIn wsX8_fault (va_wsS RX8 118 yX8_copies wsX8_copies) := goodIn_app (goodIn_of _ (by decide +kernel)) ggX8_fault_X8_copies
set_option maxRecDepth 20000 in
theorem ggX8_fault_X8_plays : GoodIn wsX8_fault wsX8_plays := goodIn_r _ [18, 19, 20, 5, 21, 22, 6, 7, 23, 24, 25, 10, 26, 27, 28, 29, 30, 31, 32, 8, 9, 11, 33, 34, 35, 36, 37, 38, 39, 40, 41, 42, 43, 44, 45, 46, 47, 48, 49, 1, 2, 50, 51, 52, 53, 54, 55, 56, 57, 58, 59, 60, 61, 62, 63, 64, 65, 66, 67, 4, 68, 69, 70, 71, 72, 73, 74, 75, 76, 77, 78, 79, 80, 81, 82, 83, 84, 85, 86, 87, 88, 89, 90, 91, 92, 93, 94, 95, 96, 97, 98, 99, 100, 101, 102, 103, 104, 105, 106, 107, 108, 109, 110, 111, 112, 113, 114, 115, 116, 117, 118, 119, 120, 121, 122, 123, 124, 125, 126, 127, 128, 129, 130, 131, 132, 133, 134, 135, 136, 137, 138, 139, 140, 141, 142, 143, 144, 145, 146, 147, 148, 149, 150, 151, 152, 153, 154, 155, 156, 157, 158, 159, 160, 161, 162, 163, 164, 165] (by decide +kernel) (by decide +kernel)
set_option maxRecDepth 20000 in
theorem gX8_fault_X8_plays : GoodIn wsX8_fault (wsV RX8 178 RX8 yX8_plays wsX8_plays) := goodIn_app (goodIn_of _ (by decide +kernel)) ggX8_fault_X8_plays
theorem dX8_fault_0 : decode cX8_fault 0 = .ok (.iload_n 1, 1) := by decide +kernel
theorem dX8_fault_1 : decode cX8_fault 1 = .ok (.iconst 0, 1) := by decide +kernel
theorem dX8_fault_2 : decode cX8_fault 2 = .ok (.iconst 2, 1) := by decide +kernel
theorem dX8_fault_3 : decode cX8_fault 3 = .ok (.invokestatic 28, 3) := by decide +kernel
theorem dX8_fault_6 : decode cX8_fault 6 = .ok (.ifCond .ne 6, 3) := by decide +kernel
theorem dX8_fault_9 : decode cX8_fault 9 = .ok (.ldc 64, 2) := by decide +kernel
theorem dX8_fault_11 : decode cX8_fault 11 = .ok (.ireturn, 1) := by decide +kernel
theorem dX8_fault_12 : decode cX8_fault 12 = .ok (.aload_n 0, 1) := by decide +kernel
theorem dX8_fault_13 : decode cX8_fault 13 = .ok (.getfield 7, 3) := by decide +kernel
theorem dX8_fault_16 : decode cX8_fault 16 = .ok (.aload_n 0, 1) := by decide +kernel
theorem dX8_fault_17 : decode cX8_fault 17 = .ok (.getfield 16, 3) := by decide +kernel
theorem dX8_fault_20 : decode cX8_fault 20 = .ok (.invokestatic 118, 3) := by decide +kernel
theorem dX8_fault_23 : decode cX8_fault 23 = .ok (.aload_n 0, 1) := by decide +kernel
theorem dX8_fault_24 : decode cX8_fault 24 = .ok (.invokevirtual 178, 3) := by decide +kernel
theorem dX8_fault_27 : decode cX8_fault 27 = .ok (.istore_n 2, 1) := by decide +kernel
theorem dX8_fault_28 : decode cX8_fault 28 = .ok (.aload_n 0, 1) := by decide +kernel
theorem dX8_fault_29 : decode cX8_fault 29 = .ok (.getfield 16, 3) := by decide +kernel
theorem dX8_fault_32 : decode cX8_fault 32 = .ok (.aload_n 0, 1) := by decide +kernel
theorem dX8_fault_33 : decode cX8_fault 33 = .ok (.getfield 7, 3) := by decide +kernel
theorem dX8_fault_36 : decode cX8_fault 36 = .ok (.invokestatic 118, 3) := by decide +kernel
theorem dX8_fault_39 : decode cX8_fault 39 = .ok (.iload_n 2, 1) := by decide +kernel
theorem dX8_fault_40 : decode cX8_fault 40 = .ok (.ifCond .eq 8, 3) := by decide +kernel
theorem dX8_fault_43 : decode cX8_fault 43 = .ok (.ldc 96, 2) := by decide +kernel
theorem dX8_fault_45 : decode cX8_fault 45 = .ok (.goto 30, 3) := by decide +kernel
theorem dX8_fault_48 : decode cX8_fault 48 = .ok (.iload_n 1, 1) := by decide +kernel
theorem dX8_fault_49 : decode cX8_fault 49 = .ok (.ifCond .ne 10, 3) := by decide +kernel
theorem dX8_fault_52 : decode cX8_fault 52 = .ok (.aload_n 0, 1) := by decide +kernel
theorem dX8_fault_53 : decode cX8_fault 53 = .ok (.getfield 159, 3) := by decide +kernel
theorem dX8_fault_56 : decode cX8_fault 56 = .ok (.goto 19, 3) := by decide +kernel
theorem dX8_fault_59 : decode cX8_fault 59 = .ok (.iload_n 1, 1) := by decide +kernel
theorem dX8_fault_60 : decode cX8_fault 60 = .ok (.iconst 1, 1) := by decide +kernel
theorem dX8_fault_61 : decode cX8_fault 61 = .ok (.if_icmp .ne 10, 3) := by decide +kernel
theorem dX8_fault_64 : decode cX8_fault 64 = .ok (.aload_n 0, 1) := by decide +kernel
theorem dX8_fault_65 : decode cX8_fault 65 = .ok (.getfield 172, 3) := by decide +kernel
theorem dX8_fault_68 : decode cX8_fault 68 = .ok (.goto 7, 3) := by decide +kernel
theorem dX8_fault_71 : decode cX8_fault 71 = .ok (.aload_n 0, 1) := by decide +kernel
theorem dX8_fault_72 : decode cX8_fault 72 = .ok (.getfield 175, 3) := by decide +kernel
theorem dX8_fault_75 : decode cX8_fault 75 = .ok (.ireturn, 1) := by decide +kernel
set_option maxRecDepth 20000 in
theorem ggX8_play_X8_copies : GoodIn wsX8_play wsX8_copies := goodIn_r _ [9] (by decide +kernel) (by decide +kernel)
set_option maxRecDepth 20000 in
theorem gX8_play_X8_copies : GoodIn wsX8_play (va_wsS RX8 118 yX8_copies wsX8_copies) := goodIn_app (goodIn_of _ (by decide +kernel)) ggX8_play_X8_copies
set_option maxRecDepth 20000 in
theorem ggX8_play_X8_plays : GoodIn wsX8_play wsX8_plays := goodIn_r _ [13, 14, 15, 16, 4, 17, 18, 19, 20, 21, 22, 8, 23, 24, 25, 26, 27, 28, 29, 30, 31, 32, 33, 34, 35, 36, 37, 38, 39, 40, 41, 42, 43, 44, 45, 46, 47, 48, 49, 50, 1, 51, 52, 53, 54, 55, 56, 57, 58, 59, 60, 61, 62, 63, 64, 65, 66, 67, 68, 5, 69, 70, 71, 72, 3, 73, 74, 75, 76, 77, 78, 79, 80, 81, 82, 83, 84, 85, 86, 87, 88, 89, 90, 91, 92, 93, 94, 95, 96, 97, 98, 99, 100, 101, 102, 103, 104, 105, 106, 107, 108, 109, 110, 111, 112, 113, 114, 115, 116, 117, 118, 119, 120, 121, 122, 123, 124, 125, 126, 127, 128, 129, 130, 131, 132, 133, 134, 135, 136, 137, 138, 139, 140, 141, 142, 143, 144, 145, 146, 147, 148, 149, 150, 151, 152, 153, 154, 155, 156, 157, 158, 159, 160, 161, 162, 163, 164, 165] (by decide +kernel) (by decide +kernel)
set_option maxRecDepth 20000 in
theorem gX8_play_X8_plays : GoodIn wsX8_play (wsV RX8 178 RX8 yX8_plays wsX8_plays) := goodIn_app (goodIn_of _ (by decide +kernel)) ggX8_play_X8_plays
set_option maxRecDepth 20000 in
theorem ggX8_play_X8_changes : GoodIn wsX8_play wsX8_changes := goodIn_r _ [62, 14, 63, 64, 1, 151, 152, 153, 154, 155, 156, 157, 158, 159, 160, 161, 162, 163, 164, 165] (by decide +kernel) (by decide +kernel)
set_option maxRecDepth 20000 in
theorem gX8_play_X8_changes : GoodIn wsX8_play (wsV RX8 70 RX8 yX8_changes wsX8_changes) := goodIn_app (goodIn_of _ (by decide +kernel)) ggX8_play_X8_changes
theorem dX8_play_0 : decode cX8_play 0 = .ok (.aload_n 0, 1) := by decide +kernel
theorem dX8_play_1 : decode cX8_play 1 = .ok (.getfield 7, 3) := by decide +kernel
theorem dX8_play_4 : decode cX8_play 4 = .ok (.aload_n 0, 1) := by decide +kernel
theorem dX8_play_5 : decode cX8_play 5 = .ok (.getfield 16, 3) := by decide +kernel
theorem dX8_play_8 : decode cX8_play 8 = .ok (.invokestatic 118, 3) := by decide +kernel
theorem dX8_play_11 : decode cX8_play 11 = .ok (.aload_n 0, 1) := by decide +kernel
theorem dX8_play_12 : decode cX8_play 12 = .ok (.invokevirtual 178, 3) := by decide +kernel
theorem dX8_play_15 : decode cX8_play 15 = .ok (.istore_n 1, 1) := by decide +kernel
theorem dX8_play_16 : decode cX8_play 16 = .ok (.aload_n 0, 1) := by decide +kernel
theorem dX8_play_17 : decode cX8_play 17 = .ok (.getfield 16, 3) := by decide +kernel
theorem dX8_play_20 : decode cX8_play 20 = .ok (.aload_n 0, 1) := by decide +kernel
theorem dX8_play_21 : decode cX8_play 21 = .ok (.getfield 7, 3) := by decide +kernel
theorem dX8_play_24 : decode cX8_play 24 = .ok (.invokestatic 118, 3) := by decide +kernel
theorem dX8_play_27 : decode cX8_play 27 = .ok (.iload_n 1, 1) := by decide +kernel
theorem dX8_play_28 : decode cX8_play 28 = .ok (.ifCond .ne 6, 3) := by decide +kernel
theorem dX8_play_31 : decode cX8_play 31 = .ok (.ldc 79, 2) := by decide +kernel
theorem dX8_play_33 : decode cX8_play 33 = .ok (.ireturn, 1) := by decide +kernel
theorem dX8_play_34 : decode cX8_play 34 = .ok (.aload_n 0, 1) := by decide +kernel
theorem dX8_play_35 : decode cX8_play 35 = .ok (.invokevirtual 70, 3) := by decide +kernel
theorem dX8_play_38 : decode cX8_play 38 = .ok (.aload_n 0, 1) := by decide +kernel
theorem dX8_play_39 : decode cX8_play 39 = .ok (.invokevirtual 178, 3) := by decide +kernel
theorem dX8_play_42 : decode cX8_play 42 = .ok (.ifCond .eq 10, 3) := by decide +kernel
theorem dX8_play_45 : decode cX8_play 45 = .ok (.aload_n 0, 1) := by decide +kernel
theorem dX8_play_46 : decode cX8_play 46 = .ok (.getfield 162, 3) := by decide +kernel
theorem dX8_play_49 : decode cX8_play 49 = .ok (.goto 5, 3) := by decide +kernel
theorem dX8_play_52 : decode cX8_play 52 = .ok (.ldc 96, 2) := by decide +kernel
theorem dX8_play_54 : decode cX8_play 54 = .ok (.ireturn, 1) := by decide +kernel
theorem dJ9_abs_0f7a4_0 : decode cJ9_abs_0f7a4 0 = .ok (.iload_n 0, 1) := by decide +kernel
theorem dJ9_abs_0f7a4_1 : decode cJ9_abs_0f7a4 1 = .ok (.ifCond .ge 8, 3) := by decide +kernel
theorem dJ9_abs_0f7a4_4 : decode cJ9_abs_0f7a4 4 = .ok (.iload_n 0, 1) := by decide +kernel
theorem dJ9_abs_0f7a4_5 : decode cJ9_abs_0f7a4 5 = .ok (.ineg, 1) := by decide +kernel
theorem dJ9_abs_0f7a4_6 : decode cJ9_abs_0f7a4 6 = .ok (.goto 4, 3) := by decide +kernel
theorem dJ9_abs_0f7a4_9 : decode cJ9_abs_0f7a4 9 = .ok (.iload_n 0, 1) := by decide +kernel
theorem dJ9_abs_0f7a4_10 : decode cJ9_abs_0f7a4 10 = .ok (.ireturn, 1) := by decide +kernel
theorem dJ9_max_7cf53_0 : decode cJ9_max_7cf53 0 = .ok (.iload_n 0, 1) := by decide +kernel
theorem dJ9_max_7cf53_1 : decode cJ9_max_7cf53 1 = .ok (.iload_n 1, 1) := by decide +kernel
theorem dJ9_max_7cf53_2 : decode cJ9_max_7cf53 2 = .ok (.if_icmp .lt 7, 3) := by decide +kernel
theorem dJ9_max_7cf53_5 : decode cJ9_max_7cf53 5 = .ok (.iload_n 0, 1) := by decide +kernel
theorem dJ9_max_7cf53_6 : decode cJ9_max_7cf53 6 = .ok (.goto 4, 3) := by decide +kernel
theorem dJ9_max_7cf53_9 : decode cJ9_max_7cf53 9 = .ok (.iload_n 1, 1) := by decide +kernel
theorem dJ9_max_7cf53_10 : decode cJ9_max_7cf53 10 = .ok (.ireturn, 1) := by decide +kernel
theorem dJ9_min_7cf53_0 : decode cJ9_min_7cf53 0 = .ok (.iload_n 0, 1) := by decide +kernel
theorem dJ9_min_7cf53_1 : decode cJ9_min_7cf53 1 = .ok (.iload_n 1, 1) := by decide +kernel
theorem dJ9_min_7cf53_2 : decode cJ9_min_7cf53 2 = .ok (.if_icmp .gt 7, 3) := by decide +kernel
theorem dJ9_min_7cf53_5 : decode cJ9_min_7cf53 5 = .ok (.iload_n 0, 1) := by decide +kernel
theorem dJ9_min_7cf53_6 : decode cJ9_min_7cf53 6 = .ok (.goto 4, 3) := by decide +kernel
theorem dJ9_min_7cf53_9 : decode cJ9_min_7cf53 9 = .ok (.iload_n 1, 1) := by decide +kernel
theorem dJ9_min_7cf53_10 : decode cJ9_min_7cf53 10 = .ok (.ireturn, 1) := by decide +kernel
set_option maxRecDepth 20000 in
theorem ggL_law_X7_init : GoodIn wsL_law wsX7_init := goodIn_r _ [8, 9, 10, 11, 12, 13, 14, 15, 16, 17, 18, 19, 20, 21, 22, 23, 24, 25, 26, 27, 28, 29, 30, 31, 32, 33, 34, 35, 36, 37, 38, 39, 40, 41, 42, 43, 44, 45, 46, 47, 48, 49, 50, 51, 52, 53, 54, 55, 56, 57, 58, 59, 60, 61, 62, 63, 64, 65, 66, 67, 68, 69, 70, 71, 72, 73, 74, 75, 76, 77, 78, 79, 80, 804, 805, 806, 807, 808, 785, 786, 787, 788, 809, 810, 811, 812, 813, 814, 815, 816, 817, 818, 819, 820, 821, 822, 823, 824, 825, 826, 827, 828, 829, 830, 831, 832, 833, 834, 835, 836, 837, 838, 839, 840, 841, 842, 843] (by decide +kernel) (by decide +kernel)
set_option maxRecDepth 20000 in
theorem gL_law_X7_init : GoodIn wsL_law (wsX7_init) := ggL_law_X7_init
set_option maxRecDepth 20000 in
theorem ggL_law_X8_init : GoodIn wsL_law wsX8_init := goodIn_r _ [83, 84, 10, 11, 54, 85, 86, 87, 88, 89, 90, 789, 790, 791, 792, 793, 794, 795, 796, 797, 798, 799, 800, 801, 802, 803] (by decide +kernel) (by decide +kernel)
set_option maxRecDepth 20000 in
theorem gL_law_X8_init : GoodIn wsL_law (wsX8_init) := ggL_law_X8_init
set_option maxRecDepth 20000 in
theorem ggL_law_X7_fill : GoodIn wsL_law wsX7_fill := goodIn_r _ [94, 95, 96, 97, 2, 98, 24, 23, 99, 100, 101, 22, 102, 39, 43, 44, 48, 49, 53, 55, 103, 104, 105, 106, 107, 108, 109, 110, 111, 112, 113, 114, 115, 38, 116, 60, 117, 118, 119, 47, 120, 121, 65, 122, 123, 124, 125, 126, 127, 66, 128, 129, 130, 42, 131, 70, 132, 133, 134, 135, 136, 137, 138, 52, 139, 75, 140, 141, 142, 143, 144, 145, 146, 147, 148, 149, 150, 151, 152, 153, 154, 155, 156, 157, 158, 159, 160, 161, 162, 163, 164, 165, 166, 167, 168, 169, 170, 171, 172, 173, 174, 175, 176, 177, 178, 179, 180, 181, 182, 15, 183, 184, 185, 14, 186, 32, 31, 30, 29, 187, 188, 785, 786, 787, 788, 819, 820, 821, 822, 823, 824, 825, 826, 827, 828, 829, 830, 831, 832, 837, 838, 839, 840, 833, 834, 835, 836, 841, 842, 843, 804, 805, 806, 807, 808] (by decide +kernel) (by decide +kernel)
set_option maxRecDepth 20000 in
theorem gL_law_X7_fill : GoodIn wsL_law (wsV RL 13 RX7 yX7_fill wsX7_fill) := goodIn_app (goodIn_of _ (by decide +kernel)) ggL_law_X7_fill
set_option maxRecDepth 20000 in
theorem ggL_law_X8_fill : GoodIn wsL_law wsX8_fill := goodIn_r _ [192, 193, 85, 194, 195, 196, 5, 197, 198, 199, 200, 201, 202, 203, 204, 205, 206, 207, 208, 209, 210, 86, 789, 790, 791, 792, 793, 794, 795, 796, 797, 798, 799, 800, 801, 802, 803] (by decide +kernel) (by decide +kernel)
set_option maxRecDepth 20000 in
theorem gL_law_X8_fill : GoodIn wsL_law (wsV RL 17 RX8 yX8_fill wsX8_fill) := goodIn_app (goodIn_of _ (by decide +kernel)) ggL_law_X8_fill
set_option maxRecDepth 20000 in
theorem ggL_law_X7_grind : GoodIn wsL_law wsX7_grind := goodIn_r _ [214, 95, 96, 97, 2, 98, 24, 23, 99, 100, 101, 22, 102, 39, 43, 44, 48, 49, 53, 55, 103, 104, 105, 106, 107, 108, 109, 110, 111, 112, 113, 114, 115, 38, 116, 60, 117, 118, 119, 47, 120, 121, 65, 122, 123, 124, 125, 126, 127, 66, 128, 129, 130, 42, 131, 70, 132, 133, 134, 135, 136, 137, 138, 52, 139, 75, 140, 141, 142, 215, 216, 217, 218, 147, 219, 220, 221, 222, 148, 149, 150, 175, 176, 177, 178, 223, 224, 225, 226, 227, 228, 229, 230, 231, 232, 233, 234, 235, 236, 237, 238, 239, 240, 241, 242, 243, 244, 245, 246, 172, 173, 174, 247, 248, 249, 250, 251, 252, 253, 254, 255, 256, 257, 258, 259, 260, 261, 262, 263, 264, 265, 266, 179, 180, 181, 182, 15, 183, 184, 185, 14, 186, 32, 31, 30, 29, 187, 188, 785, 786, 787, 788, 819, 820, 821, 822, 823, 824, 825, 826, 827, 828, 829, 830, 831, 832, 837, 838, 839, 840, 833, 834, 835, 836, 841, 842, 843, 804, 805, 806, 807, 808] (by decide +kernel) (by decide +kernel)
set_option maxRecDepth 20000 in
theorem gL_law_X7_grind : GoodIn wsL_law (wsV RL 18 RX7 yX7_grind wsX7_grind) := goodIn_app (goodIn_of _ (by decide +kernel)) ggL_law_X7_grind
set_option maxRecDepth 20000 in
theorem ggL_law_X8_grind : GoodIn wsL_law wsX8_grind := goodIn_r _ [270, 271, 272, 273, 274, 5, 275, 193, 276, 85, 194, 195, 196, 197, 198, 199, 200, 201, 202, 203, 204, 277, 278, 279, 280, 281, 282, 283, 205, 206, 207, 208, 209, 210, 86, 284, 285, 286, 287, 288, 289, 290, 291, 292, 293, 294, 295, 296, 297, 298, 299, 300, 301, 302, 303, 304, 305, 306, 307, 308, 309, 310, 311, 312, 313, 789, 790, 791, 792, 793, 794, 795, 796, 797, 798, 799, 800, 801, 802, 803] (by decide +kernel) (by decide +kernel)
set_option maxRecDepth 20000 in
theorem gL_law_X8_grind : GoodIn wsL_law (wsV RL 21 RX8 yX8_grind wsX8_grind) := goodIn_app (goodIn_of _ (by decide +kernel)) ggL_law_X8_grind
set_option maxRecDepth 20000 in
theorem ggL_law_X7_dial : GoodIn wsL_law wsX7_dial := goodIn_r _ [317, 95, 96, 97, 2, 98, 24, 23, 99, 100, 101, 22, 102, 39, 43, 44, 48, 49, 53, 55, 103, 104, 105, 106, 107, 108, 109, 110, 111, 112, 113, 114, 115, 38, 116, 60, 117, 118, 119, 47, 120, 121, 65, 122, 123, 124, 125, 126, 127, 66, 128, 129, 130, 42, 131, 70, 132, 133, 134, 135, 136, 137, 138, 52, 139, 75, 140, 141, 142, 318, 319, 320, 321, 147, 149, 150, 223, 224, 225, 226, 179, 180, 181, 182, 15, 183, 184, 185, 14, 186, 32, 31, 30, 29, 187, 188, 785, 786, 787, 788, 819, 820, 821, 822, 823, 824, 825, 826, 827, 828, 829, 830, 831, 832, 837, 838, 839, 840, 833, 834, 835, 836, 841, 842, 843, 804, 805, 806, 807, 808] (by decide +kernel) (by decide +kernel)
set_option maxRecDepth 20000 in
theorem gL_law_X7_dial : GoodIn wsL_law (wsV RL 22 RX7 yX7_dial wsX7_dial) := goodIn_app (goodIn_of _ (by decide +kernel)) ggL_law_X7_dial
set_option maxRecDepth 20000 in
theorem ggL_law_X8_dial : GoodIn wsL_law wsX8_dial := goodIn_r _ [325, 193, 85, 195, 196, 5, 197, 198, 199, 200, 205, 206, 207, 208, 209, 210, 86, 296, 297, 298, 299, 789, 790, 791, 792, 793, 794, 795, 796, 797, 798, 799, 800, 801, 802, 803] (by decide +kernel) (by decide +kernel)
set_option maxRecDepth 20000 in
theorem gL_law_X8_dial : GoodIn wsL_law (wsV RL 25 RX8 yX8_dial wsX8_dial) := goodIn_app (goodIn_of _ (by decide +kernel)) ggL_law_X8_dial
set_option maxRecDepth 20000 in
theorem ggL_law_X7_rest : GoodIn wsL_law wsX7_rest := goodIn_r _ [329, 95, 96, 97, 2, 98, 24, 23, 99, 100, 101, 22, 102, 39, 43, 44, 48, 49, 53, 55, 103, 104, 105, 106, 107, 108, 109, 110, 111, 112, 113, 114, 115, 38, 116, 60, 117, 118, 119, 47, 120, 121, 65, 122, 123, 124, 125, 126, 127, 66, 128, 129, 130, 42, 131, 70, 132, 133, 134, 135, 136, 137, 138, 52, 139, 75, 140, 141, 142, 330, 331, 332, 333, 147, 257, 258, 259, 260, 261, 262, 263, 264, 265, 266, 179, 180, 181, 182, 15, 183, 184, 185, 14, 186, 32, 31, 30, 29, 187, 188, 785, 786, 787, 788, 819, 820, 821, 822, 823, 824, 825, 826, 827, 828, 829, 830, 831, 832, 837, 838, 839, 840, 833, 834, 835, 836, 841, 842, 843, 804, 805, 806, 807, 808] (by decide +kernel) (by decide +kernel)
set_option maxRecDepth 20000 in
theorem gL_law_X7_rest : GoodIn wsL_law (wsV RL 26 RX7 yX7_rest wsX7_rest) := goodIn_app (goodIn_of _ (by decide +kernel)) ggL_law_X7_rest
set_option maxRecDepth 20000 in
theorem ggL_law_X8_rest : GoodIn wsL_law wsX8_rest := goodIn_r _ [337, 193, 198, 199, 5, 200, 205, 206, 207, 208, 209, 210, 86, 85, 307, 308, 309, 310, 296, 297, 298, 299, 311, 312, 313, 789, 790, 791, 792, 793, 794, 795, 796, 797, 798, 799, 800, 801, 802, 803] (by decide +kernel) (by decide +kernel)
set_option maxRecDepth 20000 in
theorem gL_law_X8_rest : GoodIn wsL_law (wsV RL 30 RX8 yX8_rest wsX8_rest) := goodIn_app (goodIn_of _ (by decide +kernel)) ggL_law_X8_rest
set_option maxRecDepth 20000 in
theorem ggL_law_X7_shot : GoodIn wsL_law wsX7_shot := goodIn_r _ [341, 95, 96, 97, 2, 98, 24, 23, 99, 100, 101, 22, 102, 39, 43, 44, 48, 49, 53, 55, 103, 104, 105, 106, 107, 108, 109, 110, 111, 112, 113, 114, 115, 38, 116, 60, 117, 118, 119, 47, 120, 121, 65, 122, 123, 124, 125, 126, 127, 66, 128, 129, 130, 42, 131, 70, 132, 133, 134, 135, 136, 137, 138, 52, 139, 75, 140, 141, 142, 342, 343, 344, 345, 346, 347, 348, 349, 219, 350, 351, 352, 353, 354, 160, 161, 162, 355, 356, 357, 358, 359, 360, 361, 362, 363, 364, 365, 366, 367, 368, 369, 370, 371, 372, 373, 374, 375, 376, 377, 378, 379, 380, 381, 223, 224, 225, 226, 382, 383, 384, 385, 386, 387, 388, 389, 390, 391, 392, 235, 221, 222, 255, 257, 258, 259, 260, 261, 262, 263, 264, 265, 266, 179, 180, 181, 182, 15, 183, 184, 185, 14, 186, 32, 31, 30, 29, 187, 188, 785, 786, 787, 788, 819, 820, 821, 822, 823, 824, 825, 826, 827, 828, 829, 830, 831, 832, 837, 838, 839, 840, 833, 834, 835, 836, 841, 842, 843, 804, 805, 806, 807, 808] (by decide +kernel) (by decide +kernel)
set_option maxRecDepth 20000 in
theorem gL_law_X7_shot : GoodIn wsL_law (wsV RL 31 RX7 yX7_shot wsX7_shot) := goodIn_app (goodIn_of _ (by decide +kernel)) ggL_law_X7_shot
set_option maxRecDepth 20000 in
theorem ggL_law_X8_shot : GoodIn wsL_law wsX8_shot := goodIn_r _ [396, 85, 276, 271, 205, 206, 207, 5, 208, 209, 210, 86, 397, 398, 399, 400, 281, 282, 283, 401, 402, 403, 404, 405, 406, 407, 408, 409, 410, 277, 278, 279, 280, 411, 412, 413, 414, 415, 416, 417, 418, 419, 420, 421, 296, 297, 298, 299, 307, 308, 309, 310, 311, 312, 313, 789, 790, 791, 792, 793, 794, 795, 796, 797, 798, 799, 800, 801, 802, 803] (by decide +kernel) (by decide +kernel)
set_option maxRecDepth 20000 in
theorem gL_law_X8_shot : GoodIn wsL_law (wsV RL 35 RX8 yX8_shot wsX8_shot) := goodIn_app (goodIn_of _ (by decide +kernel)) ggL_law_X8_shot
set_option maxRecDepth 20000 in
theorem ggL_law_X7_purge : GoodIn wsL_law wsX7_purge := goodIn_r _ [425, 95, 96, 97, 2, 98, 24, 23, 99, 100, 101, 22, 102, 39, 43, 44, 48, 49, 53, 55, 103, 104, 105, 106, 107, 108, 109, 110, 111, 112, 113, 114, 115, 38, 116, 60, 117, 118, 119, 47, 120, 121, 65, 122, 123, 124, 125, 126, 127, 66, 128, 129, 130, 42, 131, 70, 132, 133, 134, 135, 136, 137, 138, 52, 139, 75, 140, 141, 142, 426, 427, 428, 429, 378, 379, 380, 381, 179, 180, 181, 182, 15, 183, 184, 185, 14, 186, 32, 31, 30, 29, 187, 188, 785, 786, 787, 788, 819, 820, 821, 822, 823, 824, 825, 826, 827, 828, 829, 830, 831, 832, 837, 838, 839, 840, 833, 834, 835, 836, 841, 842, 843, 804, 805, 806, 807, 808] (by decide +kernel) (by decide +kernel)
set_option maxRecDepth 20000 in
theorem gL_law_X7_purge : GoodIn wsL_law (wsV RL 36 RX7 yX7_purge wsX7_purge) := goodIn_app (goodIn_of _ (by decide +kernel)) ggL_law_X7_purge
set_option maxRecDepth 20000 in
theorem ggL_law_X8_purge : GoodIn wsL_law wsX8_purge := goodIn_r _ [433, 85, 205, 206, 207, 5, 208, 209, 210, 86, 277, 278, 279, 280, 281, 282, 283, 789, 790, 791, 792, 793, 794, 795, 796, 797, 798, 799, 800, 801, 802, 803] (by decide +kernel) (by decide +kernel)
set_option maxRecDepth 20000 in
theorem gL_law_X8_purge : GoodIn wsL_law (wsV RL 39 RX8 yX8_purge wsX8_purge) := goodIn_app (goodIn_of _ (by decide +kernel)) ggL_law_X8_purge
set_option maxRecDepth 20000 in
theorem ggL_law_X7_correct : GoodIn wsL_law wsX7_correct := goodIn_r _ [437, 95, 96, 97, 2, 98, 24, 23, 99, 100, 101, 22, 102, 39, 43, 44, 48, 49, 53, 55, 103, 104, 105, 106, 107, 108, 109, 110, 111, 112, 113, 114, 115, 38, 116, 60, 117, 118, 119, 47, 120, 121, 65, 122, 123, 124, 125, 126, 127, 66, 128, 129, 130, 42, 131, 70, 132, 133, 134, 135, 136, 137, 138, 52, 139, 75, 140, 141, 142, 438, 439, 440, 441, 147, 219, 149, 150, 223, 224, 225, 226, 442, 443, 444, 445, 389, 390, 391, 392, 235, 221, 222, 255, 179, 180, 181, 182, 15, 183, 184, 185, 14, 186, 32, 31, 30, 29, 187, 188, 785, 786, 787, 788, 819, 820, 821, 822, 823, 824, 825, 826, 827, 828, 829, 830, 831, 832, 837, 838, 839, 840, 833, 834, 835, 836, 841, 842, 843, 804, 805, 806, 807, 808] (by decide +kernel) (by decide +kernel)
set_option maxRecDepth 20000 in
theorem gL_law_X7_correct : GoodIn wsL_law (wsV RL 40 RX7 yX7_correct wsX7_correct) := goodIn_app (goodIn_of _ (by decide +kernel)) ggL_law_X7_correct
set_option maxRecDepth 20000 in
theorem ggL_law_X8_correct : GoodIn wsL_law wsX8_correct := goodIn_r _ [449, 193, 85, 276, 195, 196, 5, 197, 198, 199, 200, 205, 206, 207, 208, 209, 210, 86, 418, 419, 420, 421, 296, 297, 298, 299, 789, 790, 791, 792, 793, 794, 795, 796, 797, 798, 799, 800, 801, 802, 803] (by decide +kernel) (by decide +kernel)
set_option maxRecDepth 20000 in
theorem gL_law_X8_correct : GoodIn wsL_law (wsV RL 43 RX8 yX8_correct wsX8_correct) := goodIn_app (goodIn_of _ (by decide +kernel)) ggL_law_X8_correct
set_option maxRecDepth 20000 in
theorem ggL_law_X7_set : GoodIn wsL_law wsX7_set := goodIn_r _ [453, 95, 96, 97, 2, 98, 24, 23, 99, 100, 101, 22, 102, 39, 43, 44, 48, 49, 53, 55, 103, 104, 105, 106, 107, 108, 109, 110, 111, 112, 113, 114, 115, 38, 116, 60, 117, 118, 119, 47, 120, 121, 65, 122, 123, 124, 125, 126, 127, 66, 128, 129, 130, 42, 131, 70, 132, 133, 134, 135, 136, 137, 138, 52, 139, 75, 140, 141, 142, 454, 455, 456, 457, 147, 179, 180, 181, 182, 15, 183, 184, 185, 14, 186, 32, 31, 30, 29, 187, 188, 785, 786, 787, 788, 819, 820, 821, 822, 823, 824, 825, 826, 827, 828, 829, 830, 831, 832, 837, 838, 839, 840, 833, 834, 835, 836, 841, 842, 843, 804, 805, 806, 807, 808] (by decide +kernel) (by decide +kernel)
set_option maxRecDepth 20000 in
theorem gL_law_X7_set : GoodIn wsL_law (wsV RL 44 RX7 yX7_set wsX7_set) := goodIn_app (goodIn_of _ (by decide +kernel)) ggL_law_X7_set
set_option maxRecDepth 20000 in
theorem ggL_law_X8_set : GoodIn wsL_law wsX8_set := goodIn_r _ [461, 193, 85, 198, 199, 5, 200, 462, 463, 464, 465, 466, 467, 205, 206, 207, 208, 209, 210, 86, 789, 790, 791, 792, 793, 794, 795, 796, 797, 798, 799, 800, 801, 802, 803] (by decide +kernel) (by decide +kernel)
set_option maxRecDepth 20000 in
theorem gL_law_X8_set : GoodIn wsL_law (wsV RL 47 RX8 yX8_set wsX8_set) := goodIn_app (goodIn_of _ (by decide +kernel)) ggL_law_X8_set
set_option maxRecDepth 20000 in
theorem ggL_law_X7_burrOf : GoodIn wsL_law wsX7_burrOf := goodIn_r _ [471, 472, 23, 473, 149, 2, 150, 474, 224, 225, 22, 226, 43, 44, 475, 476, 477, 42, 478, 70, 132, 133, 134, 479, 228, 229, 230, 231, 232, 233, 234, 235, 221, 124, 222, 785, 786, 787, 788, 819, 820, 821, 822, 823, 824, 825, 826, 827, 828, 829, 830, 831, 833, 834, 835, 836] (by decide +kernel) (by decide +kernel)
set_option maxRecDepth 20000 in
theorem gL_law_X7_burrOf : GoodIn wsL_law (wsV RL 48 RX7 yX7_burrOf wsX7_burrOf) := goodIn_app (goodIn_of _ (by decide +kernel)) ggL_law_X7_burrOf
set_option maxRecDepth 20000 in
theorem ggL_law_X8_burrOf : GoodIn wsL_law wsX8_burrOf := goodIn_r _ [483, 193, 195, 196, 5, 197, 198, 199, 200, 292, 293, 294, 295, 296, 297, 298, 299, 85, 300, 301, 302, 789, 790, 791, 792, 793, 794, 795, 796, 797, 798, 799, 800, 801, 802, 803] (by decide +kernel) (by decide +kernel)
set_option maxRecDepth 20000 in
theorem gL_law_X8_burrOf : GoodIn wsL_law (wsV RL 51 RX8 yX8_burrOf wsX8_burrOf) := goodIn_app (goodIn_of _ (by decide +kernel)) ggL_law_X8_burrOf
set_option maxRecDepth 20000 in
theorem ggL_law_X7_lotOf : GoodIn wsL_law wsX7_lotOf := goodIn_r _ [487, 472, 23, 488, 489, 490, 38, 491, 60, 492, 159, 160, 161, 47, 162, 121, 66, 493, 351, 352, 353, 65, 785, 786, 787, 788, 819, 820, 821, 822, 823, 824, 825, 826, 827, 828, 829, 830, 831, 832, 837, 838, 839, 840] (by decide +kernel) (by decide +kernel)
set_option maxRecDepth 20000 in
theorem gL_law_X7_lotOf : GoodIn wsL_law (wsV RL 52 RX7 yX7_lotOf wsX7_lotOf) := goodIn_app (goodIn_of _ (by decide +kernel)) ggL_law_X7_lotOf
set_option maxRecDepth 20000 in
theorem ggL_law_X8_lotOf : GoodIn wsL_law wsX8_lotOf := goodIn_r _ [497, 193, 85, 271, 195, 196, 5, 197, 198, 199, 200, 789, 790, 791, 792, 793, 794, 795, 796, 797, 798, 799, 800, 801, 802, 803] (by decide +kernel) (by decide +kernel)
set_option maxRecDepth 20000 in
theorem gL_law_X8_lotOf : GoodIn wsL_law (wsV RL 55 RX8 yX8_lotOf wsX8_lotOf) := goodIn_app (goodIn_of _ (by decide +kernel)) ggL_law_X8_lotOf
set_option maxRecDepth 20000 in
theorem ggL_law_X7_portionOf : GoodIn wsL_law wsX7_portionOf := goodIn_r _ [501, 472, 23, 473, 149, 2, 150, 502, 503, 504, 22, 505, 506, 354, 160, 161, 47, 162, 121, 66, 350, 351, 352, 353, 65, 359, 360, 507, 508, 365, 366, 355, 356, 357, 358, 361, 362, 363, 364, 55, 367, 368, 785, 786, 787, 788, 819, 820, 821, 822, 823, 824, 825, 826, 827, 828, 829, 830, 831, 837, 838, 839, 840] (by decide +kernel) (by decide +kernel)
set_option maxRecDepth 20000 in
theorem gL_law_X7_portionOf : GoodIn wsL_law (wsV RL 56 RX7 yX7_portionOf wsX7_portionOf) := goodIn_app (goodIn_of _ (by decide +kernel)) ggL_law_X7_portionOf
set_option maxRecDepth 20000 in
theorem ggL_law_X8_portionOf : GoodIn wsL_law wsX8_portionOf := goodIn_r _ [512, 193, 85, 271, 195, 196, 5, 197, 198, 199, 200, 281, 282, 283, 405, 406, 407, 411, 412, 413, 408, 409, 410, 401, 402, 403, 404, 789, 790, 791, 792, 793, 794, 795, 796, 797, 798, 799, 800, 801, 802, 803] (by decide +kernel) (by decide +kernel)
set_option maxRecDepth 20000 in
theorem gL_law_X8_portionOf : GoodIn wsL_law (wsV RL 60 RX8 yX8_portionOf wsX8_portionOf) := goodIn_app (goodIn_of _ (by decide +kernel)) ggL_law_X8_portionOf
set_option maxRecDepth 20000 in
theorem ggL_law_X7_shotOf : GoodIn wsL_law wsX7_shotOf := goodIn_r _ [516, 472, 23, 517, 518, 519, 52, 520, 141, 521, 75, 522, 523, 524, 525, 526, 387, 124, 388, 785, 786, 787, 788, 819, 820, 821, 822, 823, 824, 825, 826, 827, 828, 829, 830, 831, 841, 842, 843] (by decide +kernel) (by decide +kernel)
set_option maxRecDepth 20000 in
theorem gL_law_X7_shotOf : GoodIn wsL_law (wsV RL 61 RX7 yX7_shotOf wsX7_shotOf) := goodIn_app (goodIn_of _ (by decide +kernel)) ggL_law_X7_shotOf
set_option maxRecDepth 20000 in
theorem ggL_law_X8_shotOf : GoodIn wsL_law wsX8_shotOf := goodIn_r _ [530, 193, 85, 271, 198, 199, 5, 200, 414, 415, 416, 417, 789, 790, 791, 792, 793, 794, 795, 796, 797, 798, 799, 800, 801, 802, 803] (by decide +kernel) (by decide +kernel)
set_option maxRecDepth 20000 in
theorem gL_law_X8_shotOf : GoodIn wsL_law (wsV RL 64 RX8 yX8_shotOf wsX8_shotOf) := goodIn_app (goodIn_of _ (by decide +kernel)) ggL_law_X8_shotOf
set_option maxRecDepth 20000 in
theorem ggL_law_X7_best : GoodIn wsL_law wsX7_best := goodIn_r _ [534, 472, 23, 535, 536, 537, 52, 538, 141, 75, 521, 539, 540, 541, 542, 522, 523, 524, 525, 526, 387, 124, 388, 785, 786, 787, 788, 819, 820, 821, 822, 823, 824, 825, 826, 827, 828, 829, 830, 831, 841, 842, 843] (by decide +kernel) (by decide +kernel)
set_option maxRecDepth 20000 in
theorem gL_law_X7_best : GoodIn wsL_law (wsV RL 65 RX7 yX7_best wsX7_best) := goodIn_app (goodIn_of _ (by decide +kernel)) ggL_law_X7_best
set_option maxRecDepth 20000 in
theorem ggL_law_X8_best : GoodIn wsL_law wsX8_best := goodIn_r _ [546, 193, 271, 85, 414, 415, 416, 5, 417, 789, 790, 791, 792, 793, 794, 795, 796, 797, 798, 799, 800, 801, 802, 803] (by decide +kernel) (by decide +kernel)
set_option maxRecDepth 20000 in
theorem gL_law_X8_best : GoodIn wsL_law (wsV RL 68 RX8 yX8_best wsX8_best) := goodIn_app (goodIn_of _ (by decide +kernel)) ggL_law_X8_best
set_option maxRecDepth 20000 in
theorem ggL_law_X7_wouldTake : GoodIn wsL_law wsX7_wouldTake := goodIn_r _ [550, 95, 96, 97, 2, 98, 24, 23, 99, 100, 101, 22, 102, 39, 43, 44, 48, 49, 53, 55, 103, 104, 105, 106, 107, 108, 109, 110, 111, 112, 113, 114, 115, 38, 116, 60, 117, 118, 119, 47, 120, 121, 65, 122, 123, 124, 125, 126, 127, 66, 128, 129, 130, 42, 131, 70, 132, 133, 134, 135, 136, 137, 138, 52, 139, 75, 140, 141, 142, 215, 216, 217, 218, 147, 219, 220, 221, 222, 148, 149, 150, 175, 176, 177, 178, 223, 224, 225, 226, 227, 228, 229, 230, 231, 232, 233, 234, 235, 236, 237, 238, 239, 240, 241, 242, 243, 244, 245, 246, 172, 173, 174, 247, 248, 249, 250, 251, 252, 253, 254, 255, 256, 257, 258, 259, 260, 261, 262, 263, 264, 265, 266, 551, 347, 348, 349, 350, 351, 352, 353, 354, 160, 161, 162, 355, 356, 357, 358, 359, 360, 361, 362, 363, 364, 365, 366, 367, 368, 785, 786, 787, 788, 819, 820, 821, 822, 823, 824, 825, 826, 827, 828, 829, 830, 831, 832, 837, 838, 839, 840, 833, 834, 835, 836, 841, 842, 843] (by decide +kernel) (by decide +kernel)
set_option maxRecDepth 20000 in
theorem gL_law_X7_wouldTake : GoodIn wsL_law (wsV RL 69 RX7 yX7_wouldTake wsX7_wouldTake) := goodIn_app (goodIn_of _ (by decide +kernel)) ggL_law_X7_wouldTake
set_option maxRecDepth 20000 in
theorem ggL_law_X8_wouldTake : GoodIn wsL_law wsX8_wouldTake := goodIn_r _ [555, 85, 276, 88, 272, 273, 274, 5, 275, 193, 194, 195, 196, 197, 198, 199, 200, 201, 202, 203, 204, 277, 278, 279, 280, 281, 282, 283, 556, 557, 558, 284, 285, 286, 287, 288, 289, 290, 291, 292, 293, 294, 295, 296, 297, 298, 299, 300, 301, 302, 303, 304, 305, 306, 397, 398, 399, 400, 401, 402, 403, 404, 405, 406, 407, 408, 409, 410, 789, 790, 791, 792, 793, 794, 795, 796, 797, 798, 799, 800, 801, 802, 803] (by decide +kernel) (by decide +kernel)
set_option maxRecDepth 20000 in
theorem gL_law_X8_wouldTake : GoodIn wsL_law (wsV RL 72 RX8 yX8_wouldTake wsX8_wouldTake) := goodIn_app (goodIn_of _ (by decide +kernel)) ggL_law_X8_wouldTake
set_option maxRecDepth 20000 in
theorem ggL_law_X7_dialFor : GoodIn wsL_law wsX7_dialFor := goodIn_r _ [562, 472, 23, 473, 149, 2, 150, 474, 224, 225, 22, 226, 43, 44, 563, 564, 565, 566, 567, 568, 569, 570, 55, 386, 387, 124, 388, 361, 362, 363, 364, 571, 232, 233, 42, 234, 132, 235, 221, 222, 367, 368, 785, 786, 787, 788, 819, 820, 821, 822, 823, 824, 825, 826, 827, 828, 829, 830, 831, 833, 834, 835, 836] (by decide +kernel) (by decide +kernel)
set_option maxRecDepth 20000 in
theorem gL_law_X7_dialFor : GoodIn wsL_law (wsV RL 73 RX7 yX7_dialFor wsX7_dialFor) := goodIn_app (goodIn_of _ (by decide +kernel)) ggL_law_X7_dialFor
set_option maxRecDepth 20000 in
theorem ggL_law_X8_dialFor : GoodIn wsL_law wsX8_dialFor := goodIn_r _ [575, 193, 85, 195, 196, 5, 197, 198, 199, 200, 296, 297, 298, 299, 300, 301, 302, 414, 415, 416, 417, 789, 790, 791, 792, 793, 794, 795, 796, 797, 798, 799, 800, 801, 802, 803] (by decide +kernel) (by decide +kernel)
set_option maxRecDepth 20000 in
theorem gL_law_X8_dialFor : GoodIn wsL_law (wsV RL 76 RX8 yX8_dialFor wsX8_dialFor) := goodIn_app (goodIn_of _ (by decide +kernel)) ggL_law_X8_dialFor
set_option maxRecDepth 20000 in
theorem ggL_law_X7_stale : GoodIn wsL_law wsX7_stale := goodIn_r _ [579, 472, 23, 473, 149, 2, 150, 580, 581, 582, 22, 583, 39, 219, 48, 584, 585, 586, 38, 587, 60, 588, 589, 590, 591, 159, 160, 161, 47, 162, 121, 66, 223, 224, 225, 226, 43, 44, 227, 228, 229, 42, 230, 70, 231, 232, 233, 234, 132, 235, 221, 124, 222, 240, 241, 592, 593, 594, 595, 65, 785, 786, 787, 788, 819, 820, 821, 822, 823, 824, 825, 826, 827, 828, 829, 830, 831, 832, 837, 838, 839, 840, 833, 834, 835, 836] (by decide +kernel) (by decide +kernel)
set_option maxRecDepth 20000 in
theorem gL_law_X7_stale : GoodIn wsL_law (wsV RL 77 RX7 yX7_stale wsX7_stale) := goodIn_app (goodIn_of _ (by decide +kernel)) ggL_law_X7_stale
set_option maxRecDepth 20000 in
theorem ggL_law_X8_stale : GoodIn wsL_law wsX8_stale := goodIn_r _ [599, 193, 85, 276, 195, 196, 5, 197, 198, 199, 200, 281, 282, 283, 405, 406, 407, 411, 412, 413, 408, 409, 410, 292, 293, 294, 295, 296, 297, 298, 299, 300, 301, 302, 789, 790, 791, 792, 793, 794, 795, 796, 797, 798, 799, 800, 801, 802, 803] (by decide +kernel) (by decide +kernel)
set_option maxRecDepth 20000 in
theorem gL_law_X8_stale : GoodIn wsL_law (wsV RL 80 RX8 yX8_stale wsX8_stale) := goodIn_app (goodIn_of _ (by decide +kernel)) ggL_law_X8_stale
set_option maxRecDepth 20000 in
theorem ggL_law_X7_coolAfter : GoodIn wsL_law wsX7_coolAfter := goodIn_r _ [603, 472, 23, 473, 149, 2, 150, 474, 224, 225, 22, 226, 43, 44, 604, 605, 606, 607, 107, 608, 609, 610, 42, 611, 132, 265, 266, 785, 786, 787, 788, 819, 820, 821, 822, 823, 824, 825, 826, 827, 828, 829, 830, 831, 833, 834, 835, 836] (by decide +kernel) (by decide +kernel)
set_option maxRecDepth 20000 in
theorem gL_law_X7_coolAfter : GoodIn wsL_law (wsV RL 81 RX7 yX7_coolAfter wsX7_coolAfter) := goodIn_app (goodIn_of _ (by decide +kernel)) ggL_law_X7_coolAfter
set_option maxRecDepth 20000 in
theorem ggL_law_X8_coolAfter : GoodIn wsL_law wsX8_coolAfter := goodIn_r _ [615, 193, 85, 195, 196, 5, 197, 198, 199, 200, 296, 297, 298, 299, 311, 312, 313, 789, 790, 791, 792, 793, 794, 795, 796, 797, 798, 799, 800, 801, 802, 803] (by decide +kernel) (by decide +kernel)
set_option maxRecDepth 20000 in
theorem gL_law_X8_coolAfter : GoodIn wsL_law (wsV RL 84 RX8 yX8_coolAfter wsX8_coolAfter) := goodIn_app (goodIn_of _ (by decide +kernel)) ggL_law_X8_coolAfter
set_option maxRecDepth 20000 in
theorem ggL_law_X7_count : GoodIn wsL_law wsX7_count := goodIn_r _ [619, 15, 19, 23, 620, 621, 622, 22, 623, 107, 108, 109, 110, 111, 39, 48, 49, 53, 112, 175, 176, 177, 38, 178, 60, 624, 625, 626, 627, 55, 147, 785, 786, 787, 788, 804, 805, 806, 807, 808, 809, 810, 811, 812, 813, 814, 815, 816, 817, 818, 819, 820, 821, 822, 823, 824, 825, 826, 827, 828, 829, 830, 831, 837, 838, 839, 840, 841, 842, 843, 832] (by decide +kernel) (by decide +kernel)
set_option maxRecDepth 20000 in
theorem gL_law_X7_count : GoodIn wsL_law (wsV RL 85 RX7 yX7_count wsX7_count) := goodIn_app (goodIn_of _ (by decide +kernel)) ggL_law_X7_count
set_option maxRecDepth 20000 in
theorem ggL_law_X8_count : GoodIn wsL_law wsX8_count := goodIn_r _ [631, 85, 210, 632, 193, 201, 202, 203, 5, 204, 277, 278, 279, 280, 281, 282, 283, 198, 199, 200, 789, 790, 791, 792, 793, 794, 795, 796, 797, 798, 799, 800, 801, 802, 803] (by decide +kernel) (by decide +kernel)
set_option maxRecDepth 20000 in
theorem gL_law_X8_count : GoodIn wsL_law (wsV RL 88 RX8 yX8_count wsX8_count) := goodIn_app (goodIn_of _ (by decide +kernel)) ggL_law_X8_count
set_option maxRecDepth 20000 in
theorem ggL_law_X7_undo : GoodIn wsL_law wsX7_undo := goodIn_r _ [636, 15, 637, 23, 638, 639, 640, 14, 641, 29, 30, 31, 32, 187, 642, 221, 124, 222, 785, 786, 787, 788, 804, 805, 806, 807, 808] (by decide +kernel) (by decide +kernel)
set_option maxRecDepth 20000 in
theorem gL_law_X7_undo : GoodIn wsL_law (wsV RL 89 RX7 yX7_undo wsX7_undo) := goodIn_app (goodIn_of _ (by decide +kernel)) ggL_law_X7_undo
set_option maxRecDepth 20000 in
theorem ggL_law_X8_undo : GoodIn wsL_law wsX8_undo := goodIn_r _ [646, 210, 276, 85, 86, 789, 790, 791, 792, 793, 794, 795, 796, 797, 798, 799, 800, 801, 802, 803] (by decide +kernel) (by decide +kernel)
set_option maxRecDepth 20000 in
theorem gL_law_X8_undo : GoodIn wsL_law (wsV RL 92 RX8 yX8_undo wsX8_undo) := goodIn_app (goodIn_of _ (by decide +kernel)) ggL_law_X8_undo
set_option maxRecDepth 20000 in
theorem ggL_law_X7_type : GoodIn wsL_law wsX7_type := goodIn_r _ [650, 472, 19, 651, 652, 653, 18, 654, 655, 656, 80, 785, 786, 787, 788, 809, 810, 811, 812, 813, 814, 815, 816, 817, 818] (by decide +kernel) (by decide +kernel)
set_option maxRecDepth 20000 in
theorem gL_law_X7_type : GoodIn wsL_law (wsV RL 93 RX7 yX7_type wsX7_type) := goodIn_app (goodIn_of _ (by decide +kernel)) ggL_law_X7_type
set_option maxRecDepth 20000 in
theorem ggL_law_X8_type : GoodIn wsL_law wsX8_type := goodIn_r _ [660, 193, 632, 194, 89, 198, 199, 5, 200, 789, 790, 791, 792, 793, 794, 795, 796, 797, 798, 799, 800, 801, 802, 803] (by decide +kernel) (by decide +kernel)
set_option maxRecDepth 20000 in
theorem gL_law_X8_type : GoodIn wsL_law (wsV RL 96 RX8 yX8_type wsX8_type) := goodIn_app (goodIn_of _ (by decide +kernel)) ggL_law_X8_type
set_option maxRecDepth 20000 in
theorem ggL_law_X7_clearText : GoodIn wsL_law wsX7_clearText := goodIn_r _ [664, 19, 785, 786, 787, 788, 809, 810, 811, 812, 813, 814, 815, 816, 817, 818] (by decide +kernel) (by decide +kernel)
set_option maxRecDepth 20000 in
theorem gL_law_X7_clearText : GoodIn wsL_law (wsV RL 97 RX7 yX7_clearText wsX7_clearText) := goodIn_app (goodIn_of _ (by decide +kernel)) ggL_law_X7_clearText
set_option maxRecDepth 20000 in
theorem ggL_law_X8_clearText : GoodIn wsL_law wsX8_clearText := goodIn_r _ [668, 632, 789, 790, 791, 792, 793, 794, 795, 796, 797, 798, 799, 800, 801, 802, 803] (by decide +kernel) (by decide +kernel)
set_option maxRecDepth 20000 in
theorem gL_law_X8_clearText : GoodIn wsL_law (wsV RL 100 RX8 yX8_clearText wsX8_clearText) := goodIn_app (goodIn_of _ (by decide +kernel)) ggL_law_X8_clearText
set_option maxRecDepth 20000 in
theorem ggL_law_X7_fault : GoodIn wsL_law wsX7_fault := goodIn_r _ [672, 472, 19, 95, 96, 97, 2, 98, 24, 23, 99, 100, 101, 22, 102, 39, 43, 44, 48, 49, 53, 55, 103, 104, 105, 106, 107, 108, 109, 110, 111, 112, 113, 114, 115, 38, 116, 60, 117, 118, 119, 47, 120, 121, 65, 122, 123, 124, 125, 126, 127, 66, 128, 129, 130, 42, 131, 70, 132, 133, 134, 135, 136, 137, 138, 52, 139, 75, 140, 141, 142, 673, 674, 675, 18, 676, 677, 678, 679, 655, 680, 681, 682, 683, 684, 685, 686, 687, 688, 80, 689, 690, 691, 692, 693, 694, 695, 696, 697, 698, 221, 222, 699, 700, 701, 702, 703, 704, 705, 706, 707, 708, 709, 710, 711, 712, 713, 714, 715, 716, 717, 718, 719, 720, 721, 144, 145, 146, 147, 148, 149, 150, 151, 152, 153, 154, 155, 156, 157, 158, 159, 160, 161, 162, 163, 164, 165, 166, 167, 168, 169, 170, 171, 172, 173, 174, 175, 176, 177, 178, 722, 216, 217, 218, 219, 220, 223, 224, 225, 226, 227, 228, 229, 230, 231, 232, 233, 234, 235, 236, 237, 238, 239, 240, 241, 242, 243, 244, 245, 246, 247, 248, 249, 250, 251, 252, 253, 254, 255, 256, 257, 258, 259, 260, 261, 262, 263, 264, 265, 266, 723, 319, 320, 321, 724, 331, 332, 333, 725, 343, 344, 345, 346, 347, 348, 349, 350, 351, 352, 353, 354, 355, 356, 357, 358, 359, 360, 361, 362, 363, 364, 365, 366, 367, 368, 369, 370, 371, 372, 373, 374, 375, 376, 377, 378, 379, 380, 381, 382, 383, 384, 385, 386, 387, 388, 389, 390, 391, 392, 726, 427, 428, 429, 727, 728, 729, 730, 731, 732, 733, 734, 735, 785, 786, 787, 788, 819, 820, 821, 822, 823, 824, 825, 826, 827, 828, 829, 830, 831, 832, 837, 838, 839, 840, 833, 834, 835, 836, 841, 842, 843, 809, 810, 811, 812, 813, 814, 815, 816, 817, 818] (by decide +kernel) (by decide +kernel)
set_option maxRecDepth 20000 in
theorem gL_law_X7_fault : GoodIn wsL_law (wsV RL 101 RX7 yX7_fault wsX7_fault) := goodIn_app (goodIn_of _ (by decide +kernel)) ggL_law_X7_fault
set_option maxRecDepth 20000 in
theorem ggL_law_X8_fault : GoodIn wsL_law wsX8_fault := goodIn_r _ [739, 193, 85, 87, 271, 740, 741, 742, 198, 199, 5, 200, 556, 557, 558, 743, 744, 745, 746, 209, 747, 748, 632, 749, 750, 751, 752, 89, 753, 754, 755, 756, 757, 758, 759, 760, 761, 762, 763, 764, 765, 90, 766, 767, 768, 769, 770, 190, 191, 192, 194, 195, 196, 197, 201, 202, 203, 204, 205, 206, 207, 208, 210, 86, 771, 268, 269, 270, 272, 273, 274, 275, 276, 277, 278, 279, 280, 281, 282, 283, 284, 285, 286, 287, 288, 289, 290, 291, 292, 293, 294, 295, 296, 297, 298, 299, 300, 301, 302, 303, 304, 305, 306, 307, 308, 309, 310, 311, 312, 313, 772, 323, 324, 325, 773, 335, 336, 337, 774, 394, 395, 396, 397, 398, 399, 400, 401, 402, 403, 404, 405, 406, 407, 408, 409, 410, 411, 412, 413, 414, 415, 416, 417, 418, 419, 420, 421, 775, 431, 432, 433, 789, 790, 791, 792, 793, 794, 795, 796, 797, 798, 799, 800, 801, 802, 803] (by decide +kernel) (by decide +kernel)
set_option maxRecDepth 20000 in
theorem gL_law_X8_fault : GoodIn wsL_law (wsV RL 104 RX8 yX8_fault wsX8_fault) := goodIn_app (goodIn_of _ (by decide +kernel)) ggL_law_X8_fault
set_option maxRecDepth 20000 in
theorem ggL_law_X7_play : GoodIn wsL_law wsX7_play := goodIn_r _ [779, 19, 637, 95, 96, 97, 2, 98, 24, 23, 99, 100, 101, 22, 102, 39, 43, 44, 48, 49, 53, 55, 103, 104, 105, 106, 107, 108, 109, 110, 111, 112, 113, 114, 115, 38, 116, 60, 117, 118, 119, 47, 120, 121, 65, 122, 123, 124, 125, 126, 127, 66, 128, 129, 130, 42, 131, 70, 132, 133, 134, 135, 136, 137, 138, 52, 139, 75, 140, 141, 142, 673, 674, 675, 18, 676, 677, 678, 679, 655, 680, 681, 682, 683, 684, 685, 686, 687, 688, 80, 689, 690, 691, 692, 693, 694, 695, 696, 697, 698, 221, 222, 699, 700, 701, 702, 703, 704, 705, 706, 707, 708, 709, 710, 711, 712, 713, 714, 715, 716, 717, 718, 719, 720, 721, 144, 145, 146, 147, 148, 149, 150, 151, 152, 153, 154, 155, 156, 157, 158, 159, 160, 161, 162, 163, 164, 165, 166, 167, 168, 169, 170, 171, 172, 173, 174, 175, 176, 177, 178, 722, 216, 217, 218, 219, 220, 223, 224, 225, 226, 227, 228, 229, 230, 231, 232, 233, 234, 235, 236, 237, 238, 239, 240, 241, 242, 243, 244, 245, 246, 247, 248, 249, 250, 251, 252, 253, 254, 255, 256, 257, 258, 259, 260, 261, 262, 263, 264, 265, 266, 723, 319, 320, 321, 724, 331, 332, 333, 725, 343, 344, 345, 346, 347, 348, 349, 350, 351, 352, 353, 354, 355, 356, 357, 358, 359, 360, 361, 362, 363, 364, 365, 366, 367, 368, 369, 370, 371, 372, 373, 374, 375, 376, 377, 378, 379, 380, 381, 382, 383, 384, 385, 386, 387, 388, 389, 390, 391, 392, 726, 427, 428, 429, 780, 733, 734, 735, 179, 180, 181, 182, 15, 183, 184, 185, 14, 186, 32, 31, 30, 29, 187, 188, 785, 786, 787, 788, 809, 810, 811, 812, 813, 814, 815, 816, 817, 818, 819, 820, 821, 822, 823, 824, 825, 826, 827, 828, 829, 830, 831, 832, 837, 838, 839, 840, 833, 834, 835, 836, 841, 842, 843, 804, 805, 806, 807, 808] (by decide +kernel) (by decide +kernel)
set_option maxRecDepth 20000 in
theorem gL_law_X7_play : GoodIn wsL_law (wsV RL 105 RX7 yX7_play wsX7_play) := goodIn_app (goodIn_of _ (by decide +kernel)) ggL_law_X7_play
set_option maxRecDepth 20000 in
theorem ggL_law_X8_play : GoodIn wsL_law wsX8_play := goodIn_r _ [784, 85, 87, 276, 748, 271, 556, 557, 5, 558, 743, 744, 745, 746, 209, 747, 740, 632, 741, 742, 749, 750, 751, 752, 89, 753, 754, 755, 756, 757, 198, 199, 200, 758, 759, 760, 761, 762, 763, 764, 765, 90, 766, 767, 768, 769, 770, 190, 191, 192, 193, 194, 195, 196, 197, 201, 202, 203, 204, 205, 206, 207, 208, 210, 86, 771, 268, 269, 270, 272, 273, 274, 275, 277, 278, 279, 280, 281, 282, 283, 284, 285, 286, 287, 288, 289, 290, 291, 292, 293, 294, 295, 296, 297, 298, 299, 300, 301, 302, 303, 304, 305, 306, 307, 308, 309, 310, 311, 312, 313, 772, 323, 324, 325, 773, 335, 336, 337, 774, 394, 395, 396, 397, 398, 399, 400, 401, 402, 403, 404, 405, 406, 407, 408, 409, 410, 411, 412, 413, 414, 415, 416, 417, 418, 419, 420, 421, 775, 431, 432, 433, 789, 790, 791, 792, 793, 794, 795, 796, 797, 798, 799, 800, 801, 802, 803] (by decide +kernel) (by decide +kernel)
set_option maxRecDepth 20000 in
theorem gL_law_X8_play : GoodIn wsL_law (wsV RL 108 RX8 yX8_play wsX8_play) := goodIn_app (goodIn_of _ (by decide +kernel)) ggL_law_X8_play
theorem dL_law_0 : decode cL_law 0 = .ok (.new 7, 3) := by decide +kernel
theorem dL_law_3 : decode cL_law 3 = .ok (.dup, 1) := by decide +kernel
theorem dL_law_4 : decode cL_law 4 = .ok (.invokespecial 9, 3) := by decide +kernel
theorem dL_law_7 : decode cL_law 7 = .ok (.astore_n 1, 1) := by decide +kernel
theorem dL_law_8 : decode cL_law 8 = .ok (.new 10, 3) := by decide +kernel
theorem dL_law_11 : decode cL_law 11 = .ok (.dup, 1) := by decide +kernel
theorem dL_law_12 : decode cL_law 12 = .ok (.invokespecial 12, 3) := by decide +kernel
theorem dL_law_15 : decode cL_law 15 = .ok (.astore_n 2, 1) := by decide +kernel
theorem dL_law_16 : decode cL_law 16 = .ok (.iconst 0, 1) := by decide +kernel
theorem dL_law_17 : decode cL_law 17 = .ok (.istore_n 3, 1) := by decide +kernel
theorem dL_law_18 : decode cL_law 18 = .ok (.iload_n 3, 1) := by decide +kernel
theorem dL_law_19 : decode cL_law 19 = .ok (.aload_n 0, 1) := by decide +kernel
theorem dL_law_20 : decode cL_law 20 = .ok (.arraylength, 1) := by decide +kernel
theorem dL_law_21 : decode cL_law 21 = .ok (.iconst 4, 1) := by decide +kernel
theorem dL_law_22 : decode cL_law 22 = .ok (.isub, 1) := by decide +kernel
theorem dL_law_23 : decode cL_law 23 = .ok (.if_icmp .gt 722, 3) := by decide +kernel
theorem dL_law_26 : decode cL_law 26 = .ok (.aload_n 0, 1) := by decide +kernel
theorem dL_law_27 : decode cL_law 27 = .ok (.iload_n 3, 1) := by decide +kernel
theorem dL_law_28 : decode cL_law 28 = .ok (.iaload, 1) := by decide +kernel
theorem dL_law_29 : decode cL_law 29 = .ok (.bipush 31, 2) := by decide +kernel
theorem dL_law_31 : decode cL_law 31 = .ok (.iand, 1) := by decide +kernel
theorem dL_law_32 : decode cL_law 32 = .ok (.tableswitch 707 0 22 #[108, 141, 174, 207, 230, 243, 256, 279, 312, 345, 378, 421, 454, 477, 510, 543, 566, 599, 622, 635, 658, 671, 694], 108) := by decide +kernel
theorem dL_law_140 : decode cL_law 140 = .ok (.aload_n 1, 1) := by decide +kernel
theorem dL_law_141 : decode cL_law 141 = .ok (.aload_n 0, 1) := by decide +kernel
theorem dL_law_142 : decode cL_law 142 = .ok (.iload_n 3, 1) := by decide +kernel
theorem dL_law_143 : decode cL_law 143 = .ok (.iconst 1, 1) := by decide +kernel
theorem dL_law_144 : decode cL_law 144 = .ok (.iadd, 1) := by decide +kernel
theorem dL_law_145 : decode cL_law 145 = .ok (.iaload, 1) := by decide +kernel
theorem dL_law_146 : decode cL_law 146 = .ok (.aload_n 0, 1) := by decide +kernel
theorem dL_law_147 : decode cL_law 147 = .ok (.iload_n 3, 1) := by decide +kernel
theorem dL_law_148 : decode cL_law 148 = .ok (.iconst 2, 1) := by decide +kernel
theorem dL_law_149 : decode cL_law 149 = .ok (.iadd, 1) := by decide +kernel
theorem dL_law_150 : decode cL_law 150 = .ok (.iaload, 1) := by decide +kernel
theorem dL_law_151 : decode cL_law 151 = .ok (.invokevirtual 13, 3) := by decide +kernel
theorem dL_law_154 : decode cL_law 154 = .ok (.aload_n 2, 1) := by decide +kernel
theorem dL_law_155 : decode cL_law 155 = .ok (.aload_n 0, 1) := by decide +kernel
theorem dL_law_156 : decode cL_law 156 = .ok (.iload_n 3, 1) := by decide +kernel
theorem dL_law_157 : decode cL_law 157 = .ok (.iconst 1, 1) := by decide +kernel
theorem dL_law_158 : decode cL_law 158 = .ok (.iadd, 1) := by decide +kernel
theorem dL_law_159 : decode cL_law 159 = .ok (.iaload, 1) := by decide +kernel
theorem dL_law_160 : decode cL_law 160 = .ok (.aload_n 0, 1) := by decide +kernel
theorem dL_law_161 : decode cL_law 161 = .ok (.iload_n 3, 1) := by decide +kernel
theorem dL_law_162 : decode cL_law 162 = .ok (.iconst 2, 1) := by decide +kernel
theorem dL_law_163 : decode cL_law 163 = .ok (.iadd, 1) := by decide +kernel
theorem dL_law_164 : decode cL_law 164 = .ok (.iaload, 1) := by decide +kernel
theorem dL_law_165 : decode cL_law 165 = .ok (.invokevirtual 17, 3) := by decide +kernel
theorem dL_law_168 : decode cL_law 168 = .ok (.if_icmp .eq 571, 3) := by decide +kernel
theorem dL_law_171 : decode cL_law 171 = .ok (.iconst 0, 1) := by decide +kernel
theorem dL_law_172 : decode cL_law 172 = .ok (.ireturn, 1) := by decide +kernel
theorem dL_law_173 : decode cL_law 173 = .ok (.aload_n 1, 1) := by decide +kernel
theorem dL_law_174 : decode cL_law 174 = .ok (.aload_n 0, 1) := by decide +kernel
theorem dL_law_175 : decode cL_law 175 = .ok (.iload_n 3, 1) := by decide +kernel
theorem dL_law_176 : decode cL_law 176 = .ok (.iconst 1, 1) := by decide +kernel
theorem dL_law_177 : decode cL_law 177 = .ok (.iadd, 1) := by decide +kernel
theorem dL_law_178 : decode cL_law 178 = .ok (.iaload, 1) := by decide +kernel
theorem dL_law_179 : decode cL_law 179 = .ok (.aload_n 0, 1) := by decide +kernel
theorem dL_law_180 : decode cL_law 180 = .ok (.iload_n 3, 1) := by decide +kernel
theorem dL_law_181 : decode cL_law 181 = .ok (.iconst 2, 1) := by decide +kernel
theorem dL_law_182 : decode cL_law 182 = .ok (.iadd, 1) := by decide +kernel
theorem dL_law_183 : decode cL_law 183 = .ok (.iaload, 1) := by decide +kernel
theorem dL_law_184 : decode cL_law 184 = .ok (.invokevirtual 18, 3) := by decide +kernel
theorem dL_law_187 : decode cL_law 187 = .ok (.aload_n 2, 1) := by decide +kernel
theorem dL_law_188 : decode cL_law 188 = .ok (.aload_n 0, 1) := by decide +kernel
theorem dL_law_189 : decode cL_law 189 = .ok (.iload_n 3, 1) := by decide +kernel
theorem dL_law_190 : decode cL_law 190 = .ok (.iconst 1, 1) := by decide +kernel
theorem dL_law_191 : decode cL_law 191 = .ok (.iadd, 1) := by decide +kernel
theorem dL_law_192 : decode cL_law 192 = .ok (.iaload, 1) := by decide +kernel
theorem dL_law_193 : decode cL_law 193 = .ok (.aload_n 0, 1) := by decide +kernel
theorem dL_law_194 : decode cL_law 194 = .ok (.iload_n 3, 1) := by decide +kernel
theorem dL_law_195 : decode cL_law 195 = .ok (.iconst 2, 1) := by decide +kernel
theorem dL_law_196 : decode cL_law 196 = .ok (.iadd, 1) := by decide +kernel
theorem dL_law_197 : decode cL_law 197 = .ok (.iaload, 1) := by decide +kernel
theorem dL_law_198 : decode cL_law 198 = .ok (.invokevirtual 21, 3) := by decide +kernel
theorem dL_law_201 : decode cL_law 201 = .ok (.if_icmp .eq 538, 3) := by decide +kernel
theorem dL_law_204 : decode cL_law 204 = .ok (.iconst 0, 1) := by decide +kernel
theorem dL_law_205 : decode cL_law 205 = .ok (.ireturn, 1) := by decide +kernel
theorem dL_law_206 : decode cL_law 206 = .ok (.aload_n 1, 1) := by decide +kernel
theorem dL_law_207 : decode cL_law 207 = .ok (.aload_n 0, 1) := by decide +kernel
theorem dL_law_208 : decode cL_law 208 = .ok (.iload_n 3, 1) := by decide +kernel
theorem dL_law_209 : decode cL_law 209 = .ok (.iconst 1, 1) := by decide +kernel
theorem dL_law_210 : decode cL_law 210 = .ok (.iadd, 1) := by decide +kernel
theorem dL_law_211 : decode cL_law 211 = .ok (.iaload, 1) := by decide +kernel
theorem dL_law_212 : decode cL_law 212 = .ok (.aload_n 0, 1) := by decide +kernel
theorem dL_law_213 : decode cL_law 213 = .ok (.iload_n 3, 1) := by decide +kernel
theorem dL_law_214 : decode cL_law 214 = .ok (.iconst 2, 1) := by decide +kernel
theorem dL_law_215 : decode cL_law 215 = .ok (.iadd, 1) := by decide +kernel
theorem dL_law_216 : decode cL_law 216 = .ok (.iaload, 1) := by decide +kernel
theorem dL_law_217 : decode cL_law 217 = .ok (.invokevirtual 22, 3) := by decide +kernel
theorem dL_law_220 : decode cL_law 220 = .ok (.aload_n 2, 1) := by decide +kernel
theorem dL_law_221 : decode cL_law 221 = .ok (.aload_n 0, 1) := by decide +kernel
theorem dL_law_222 : decode cL_law 222 = .ok (.iload_n 3, 1) := by decide +kernel
theorem dL_law_223 : decode cL_law 223 = .ok (.iconst 1, 1) := by decide +kernel
theorem dL_law_224 : decode cL_law 224 = .ok (.iadd, 1) := by decide +kernel
theorem dL_law_225 : decode cL_law 225 = .ok (.iaload, 1) := by decide +kernel
theorem dL_law_226 : decode cL_law 226 = .ok (.aload_n 0, 1) := by decide +kernel
theorem dL_law_227 : decode cL_law 227 = .ok (.iload_n 3, 1) := by decide +kernel
theorem dL_law_228 : decode cL_law 228 = .ok (.iconst 2, 1) := by decide +kernel
theorem dL_law_229 : decode cL_law 229 = .ok (.iadd, 1) := by decide +kernel
theorem dL_law_230 : decode cL_law 230 = .ok (.iaload, 1) := by decide +kernel
theorem dL_law_231 : decode cL_law 231 = .ok (.invokevirtual 25, 3) := by decide +kernel
theorem dL_law_234 : decode cL_law 234 = .ok (.if_icmp .eq 505, 3) := by decide +kernel
theorem dL_law_237 : decode cL_law 237 = .ok (.iconst 0, 1) := by decide +kernel
theorem dL_law_238 : decode cL_law 238 = .ok (.ireturn, 1) := by decide +kernel
theorem dL_law_239 : decode cL_law 239 = .ok (.aload_n 1, 1) := by decide +kernel
theorem dL_law_240 : decode cL_law 240 = .ok (.aload_n 0, 1) := by decide +kernel
theorem dL_law_241 : decode cL_law 241 = .ok (.iload_n 3, 1) := by decide +kernel
theorem dL_law_242 : decode cL_law 242 = .ok (.iconst 1, 1) := by decide +kernel
theorem dL_law_243 : decode cL_law 243 = .ok (.iadd, 1) := by decide +kernel
theorem dL_law_244 : decode cL_law 244 = .ok (.iaload, 1) := by decide +kernel
theorem dL_law_245 : decode cL_law 245 = .ok (.invokevirtual 26, 3) := by decide +kernel
theorem dL_law_248 : decode cL_law 248 = .ok (.aload_n 2, 1) := by decide +kernel
theorem dL_law_249 : decode cL_law 249 = .ok (.aload_n 0, 1) := by decide +kernel
theorem dL_law_250 : decode cL_law 250 = .ok (.iload_n 3, 1) := by decide +kernel
theorem dL_law_251 : decode cL_law 251 = .ok (.iconst 1, 1) := by decide +kernel
theorem dL_law_252 : decode cL_law 252 = .ok (.iadd, 1) := by decide +kernel
theorem dL_law_253 : decode cL_law 253 = .ok (.iaload, 1) := by decide +kernel
theorem dL_law_254 : decode cL_law 254 = .ok (.invokevirtual 30, 3) := by decide +kernel
theorem dL_law_257 : decode cL_law 257 = .ok (.if_icmp .eq 482, 3) := by decide +kernel
theorem dL_law_260 : decode cL_law 260 = .ok (.iconst 0, 1) := by decide +kernel
theorem dL_law_261 : decode cL_law 261 = .ok (.ireturn, 1) := by decide +kernel
theorem dL_law_262 : decode cL_law 262 = .ok (.aload_n 1, 1) := by decide +kernel
theorem dL_law_263 : decode cL_law 263 = .ok (.invokevirtual 31, 3) := by decide +kernel
theorem dL_law_266 : decode cL_law 266 = .ok (.aload_n 2, 1) := by decide +kernel
theorem dL_law_267 : decode cL_law 267 = .ok (.invokevirtual 35, 3) := by decide +kernel
theorem dL_law_270 : decode cL_law 270 = .ok (.if_icmp .eq 469, 3) := by decide +kernel
theorem dL_law_273 : decode cL_law 273 = .ok (.iconst 0, 1) := by decide +kernel
theorem dL_law_274 : decode cL_law 274 = .ok (.ireturn, 1) := by decide +kernel
theorem dL_law_275 : decode cL_law 275 = .ok (.aload_n 1, 1) := by decide +kernel
theorem dL_law_276 : decode cL_law 276 = .ok (.invokevirtual 36, 3) := by decide +kernel
theorem dL_law_279 : decode cL_law 279 = .ok (.aload_n 2, 1) := by decide +kernel
theorem dL_law_280 : decode cL_law 280 = .ok (.invokevirtual 39, 3) := by decide +kernel
theorem dL_law_283 : decode cL_law 283 = .ok (.if_icmp .eq 456, 3) := by decide +kernel
theorem dL_law_286 : decode cL_law 286 = .ok (.iconst 0, 1) := by decide +kernel
theorem dL_law_287 : decode cL_law 287 = .ok (.ireturn, 1) := by decide +kernel
theorem dL_law_288 : decode cL_law 288 = .ok (.aload_n 1, 1) := by decide +kernel
theorem dL_law_289 : decode cL_law 289 = .ok (.aload_n 0, 1) := by decide +kernel
theorem dL_law_290 : decode cL_law 290 = .ok (.iload_n 3, 1) := by decide +kernel
theorem dL_law_291 : decode cL_law 291 = .ok (.iconst 1, 1) := by decide +kernel
theorem dL_law_292 : decode cL_law 292 = .ok (.iadd, 1) := by decide +kernel
theorem dL_law_293 : decode cL_law 293 = .ok (.iaload, 1) := by decide +kernel
theorem dL_law_294 : decode cL_law 294 = .ok (.invokevirtual 40, 3) := by decide +kernel
theorem dL_law_297 : decode cL_law 297 = .ok (.aload_n 2, 1) := by decide +kernel
theorem dL_law_298 : decode cL_law 298 = .ok (.aload_n 0, 1) := by decide +kernel
theorem dL_law_299 : decode cL_law 299 = .ok (.iload_n 3, 1) := by decide +kernel
theorem dL_law_300 : decode cL_law 300 = .ok (.iconst 1, 1) := by decide +kernel
theorem dL_law_301 : decode cL_law 301 = .ok (.iadd, 1) := by decide +kernel
theorem dL_law_302 : decode cL_law 302 = .ok (.iaload, 1) := by decide +kernel
theorem dL_law_303 : decode cL_law 303 = .ok (.invokevirtual 43, 3) := by decide +kernel
theorem dL_law_306 : decode cL_law 306 = .ok (.if_icmp .eq 433, 3) := by decide +kernel
theorem dL_law_309 : decode cL_law 309 = .ok (.iconst 0, 1) := by decide +kernel
theorem dL_law_310 : decode cL_law 310 = .ok (.ireturn, 1) := by decide +kernel
theorem dL_law_311 : decode cL_law 311 = .ok (.aload_n 1, 1) := by decide +kernel
theorem dL_law_312 : decode cL_law 312 = .ok (.aload_n 0, 1) := by decide +kernel
theorem dL_law_313 : decode cL_law 313 = .ok (.iload_n 3, 1) := by decide +kernel
theorem dL_law_314 : decode cL_law 314 = .ok (.iconst 1, 1) := by decide +kernel
theorem dL_law_315 : decode cL_law 315 = .ok (.iadd, 1) := by decide +kernel
theorem dL_law_316 : decode cL_law 316 = .ok (.iaload, 1) := by decide +kernel
theorem dL_law_317 : decode cL_law 317 = .ok (.aload_n 0, 1) := by decide +kernel
theorem dL_law_318 : decode cL_law 318 = .ok (.iload_n 3, 1) := by decide +kernel
theorem dL_law_319 : decode cL_law 319 = .ok (.iconst 2, 1) := by decide +kernel
theorem dL_law_320 : decode cL_law 320 = .ok (.iadd, 1) := by decide +kernel
theorem dL_law_321 : decode cL_law 321 = .ok (.iaload, 1) := by decide +kernel
theorem dL_law_322 : decode cL_law 322 = .ok (.invokevirtual 44, 3) := by decide +kernel
theorem dL_law_325 : decode cL_law 325 = .ok (.aload_n 2, 1) := by decide +kernel
theorem dL_law_326 : decode cL_law 326 = .ok (.aload_n 0, 1) := by decide +kernel
theorem dL_law_327 : decode cL_law 327 = .ok (.iload_n 3, 1) := by decide +kernel
theorem dL_law_328 : decode cL_law 328 = .ok (.iconst 1, 1) := by decide +kernel
theorem dL_law_329 : decode cL_law 329 = .ok (.iadd, 1) := by decide +kernel
theorem dL_law_330 : decode cL_law 330 = .ok (.iaload, 1) := by decide +kernel
theorem dL_law_331 : decode cL_law 331 = .ok (.aload_n 0, 1) := by decide +kernel
theorem dL_law_332 : decode cL_law 332 = .ok (.iload_n 3, 1) := by decide +kernel
theorem dL_law_333 : decode cL_law 333 = .ok (.iconst 2, 1) := by decide +kernel
theorem dL_law_334 : decode cL_law 334 = .ok (.iadd, 1) := by decide +kernel
theorem dL_law_335 : decode cL_law 335 = .ok (.iaload, 1) := by decide +kernel
theorem dL_law_336 : decode cL_law 336 = .ok (.invokevirtual 47, 3) := by decide +kernel
theorem dL_law_339 : decode cL_law 339 = .ok (.if_icmp .eq 400, 3) := by decide +kernel
theorem dL_law_342 : decode cL_law 342 = .ok (.iconst 0, 1) := by decide +kernel
theorem dL_law_343 : decode cL_law 343 = .ok (.ireturn, 1) := by decide +kernel
theorem dL_law_344 : decode cL_law 344 = .ok (.aload_n 1, 1) := by decide +kernel
theorem dL_law_345 : decode cL_law 345 = .ok (.aload_n 0, 1) := by decide +kernel
theorem dL_law_346 : decode cL_law 346 = .ok (.iload_n 3, 1) := by decide +kernel
theorem dL_law_347 : decode cL_law 347 = .ok (.iconst 1, 1) := by decide +kernel
theorem dL_law_348 : decode cL_law 348 = .ok (.iadd, 1) := by decide +kernel
theorem dL_law_349 : decode cL_law 349 = .ok (.iaload, 1) := by decide +kernel
theorem dL_law_350 : decode cL_law 350 = .ok (.aload_n 0, 1) := by decide +kernel
theorem dL_law_351 : decode cL_law 351 = .ok (.iload_n 3, 1) := by decide +kernel
theorem dL_law_352 : decode cL_law 352 = .ok (.iconst 2, 1) := by decide +kernel
theorem dL_law_353 : decode cL_law 353 = .ok (.iadd, 1) := by decide +kernel
theorem dL_law_354 : decode cL_law 354 = .ok (.iaload, 1) := by decide +kernel
theorem dL_law_355 : decode cL_law 355 = .ok (.invokevirtual 48, 3) := by decide +kernel
theorem dL_law_358 : decode cL_law 358 = .ok (.aload_n 2, 1) := by decide +kernel
theorem dL_law_359 : decode cL_law 359 = .ok (.aload_n 0, 1) := by decide +kernel
theorem dL_law_360 : decode cL_law 360 = .ok (.iload_n 3, 1) := by decide +kernel
theorem dL_law_361 : decode cL_law 361 = .ok (.iconst 1, 1) := by decide +kernel
theorem dL_law_362 : decode cL_law 362 = .ok (.iadd, 1) := by decide +kernel
theorem dL_law_363 : decode cL_law 363 = .ok (.iaload, 1) := by decide +kernel
theorem dL_law_364 : decode cL_law 364 = .ok (.aload_n 0, 1) := by decide +kernel
theorem dL_law_365 : decode cL_law 365 = .ok (.iload_n 3, 1) := by decide +kernel
theorem dL_law_366 : decode cL_law 366 = .ok (.iconst 2, 1) := by decide +kernel
theorem dL_law_367 : decode cL_law 367 = .ok (.iadd, 1) := by decide +kernel
theorem dL_law_368 : decode cL_law 368 = .ok (.iaload, 1) := by decide +kernel
theorem dL_law_369 : decode cL_law 369 = .ok (.invokevirtual 51, 3) := by decide +kernel
theorem dL_law_372 : decode cL_law 372 = .ok (.if_icmp .eq 367, 3) := by decide +kernel
theorem dL_law_375 : decode cL_law 375 = .ok (.iconst 0, 1) := by decide +kernel
theorem dL_law_376 : decode cL_law 376 = .ok (.ireturn, 1) := by decide +kernel
theorem dL_law_377 : decode cL_law 377 = .ok (.aload_n 1, 1) := by decide +kernel
theorem dL_law_378 : decode cL_law 378 = .ok (.aload_n 0, 1) := by decide +kernel
theorem dL_law_379 : decode cL_law 379 = .ok (.iload_n 3, 1) := by decide +kernel
theorem dL_law_380 : decode cL_law 380 = .ok (.iconst 1, 1) := by decide +kernel
theorem dL_law_381 : decode cL_law 381 = .ok (.iadd, 1) := by decide +kernel
theorem dL_law_382 : decode cL_law 382 = .ok (.iaload, 1) := by decide +kernel
theorem dL_law_383 : decode cL_law 383 = .ok (.aload_n 0, 1) := by decide +kernel
theorem dL_law_384 : decode cL_law 384 = .ok (.iload_n 3, 1) := by decide +kernel
theorem dL_law_385 : decode cL_law 385 = .ok (.iconst 2, 1) := by decide +kernel
theorem dL_law_386 : decode cL_law 386 = .ok (.iadd, 1) := by decide +kernel
theorem dL_law_387 : decode cL_law 387 = .ok (.iaload, 1) := by decide +kernel
theorem dL_law_388 : decode cL_law 388 = .ok (.invokevirtual 52, 3) := by decide +kernel
theorem dL_law_391 : decode cL_law 391 = .ok (.aload_n 2, 1) := by decide +kernel
theorem dL_law_392 : decode cL_law 392 = .ok (.aload_n 0, 1) := by decide +kernel
theorem dL_law_393 : decode cL_law 393 = .ok (.iload_n 3, 1) := by decide +kernel
theorem dL_law_394 : decode cL_law 394 = .ok (.iconst 1, 1) := by decide +kernel
theorem dL_law_395 : decode cL_law 395 = .ok (.iadd, 1) := by decide +kernel
theorem dL_law_396 : decode cL_law 396 = .ok (.iaload, 1) := by decide +kernel
theorem dL_law_397 : decode cL_law 397 = .ok (.aload_n 0, 1) := by decide +kernel
theorem dL_law_398 : decode cL_law 398 = .ok (.iload_n 3, 1) := by decide +kernel
theorem dL_law_399 : decode cL_law 399 = .ok (.iconst 2, 1) := by decide +kernel
theorem dL_law_400 : decode cL_law 400 = .ok (.iadd, 1) := by decide +kernel
theorem dL_law_401 : decode cL_law 401 = .ok (.iaload, 1) := by decide +kernel
theorem dL_law_402 : decode cL_law 402 = .ok (.invokevirtual 55, 3) := by decide +kernel
theorem dL_law_405 : decode cL_law 405 = .ok (.if_icmp .eq 334, 3) := by decide +kernel
theorem dL_law_408 : decode cL_law 408 = .ok (.iconst 0, 1) := by decide +kernel
theorem dL_law_409 : decode cL_law 409 = .ok (.ireturn, 1) := by decide +kernel
theorem dL_law_410 : decode cL_law 410 = .ok (.aload_n 1, 1) := by decide +kernel
theorem dL_law_411 : decode cL_law 411 = .ok (.aload_n 0, 1) := by decide +kernel
theorem dL_law_412 : decode cL_law 412 = .ok (.iload_n 3, 1) := by decide +kernel
theorem dL_law_413 : decode cL_law 413 = .ok (.iconst 1, 1) := by decide +kernel
theorem dL_law_414 : decode cL_law 414 = .ok (.iadd, 1) := by decide +kernel
theorem dL_law_415 : decode cL_law 415 = .ok (.iaload, 1) := by decide +kernel
theorem dL_law_416 : decode cL_law 416 = .ok (.aload_n 0, 1) := by decide +kernel
theorem dL_law_417 : decode cL_law 417 = .ok (.iload_n 3, 1) := by decide +kernel
theorem dL_law_418 : decode cL_law 418 = .ok (.iconst 2, 1) := by decide +kernel
theorem dL_law_419 : decode cL_law 419 = .ok (.iadd, 1) := by decide +kernel
theorem dL_law_420 : decode cL_law 420 = .ok (.iaload, 1) := by decide +kernel
theorem dL_law_421 : decode cL_law 421 = .ok (.aload_n 0, 1) := by decide +kernel
theorem dL_law_422 : decode cL_law 422 = .ok (.iload_n 3, 1) := by decide +kernel
theorem dL_law_423 : decode cL_law 423 = .ok (.iconst 3, 1) := by decide +kernel
theorem dL_law_424 : decode cL_law 424 = .ok (.iadd, 1) := by decide +kernel
theorem dL_law_425 : decode cL_law 425 = .ok (.iaload, 1) := by decide +kernel
theorem dL_law_426 : decode cL_law 426 = .ok (.invokevirtual 56, 3) := by decide +kernel
theorem dL_law_429 : decode cL_law 429 = .ok (.aload_n 2, 1) := by decide +kernel
theorem dL_law_430 : decode cL_law 430 = .ok (.aload_n 0, 1) := by decide +kernel
theorem dL_law_431 : decode cL_law 431 = .ok (.iload_n 3, 1) := by decide +kernel
theorem dL_law_432 : decode cL_law 432 = .ok (.iconst 1, 1) := by decide +kernel
theorem dL_law_433 : decode cL_law 433 = .ok (.iadd, 1) := by decide +kernel
theorem dL_law_434 : decode cL_law 434 = .ok (.iaload, 1) := by decide +kernel
theorem dL_law_435 : decode cL_law 435 = .ok (.aload_n 0, 1) := by decide +kernel
theorem dL_law_436 : decode cL_law 436 = .ok (.iload_n 3, 1) := by decide +kernel
theorem dL_law_437 : decode cL_law 437 = .ok (.iconst 2, 1) := by decide +kernel
theorem dL_law_438 : decode cL_law 438 = .ok (.iadd, 1) := by decide +kernel
theorem dL_law_439 : decode cL_law 439 = .ok (.iaload, 1) := by decide +kernel
theorem dL_law_440 : decode cL_law 440 = .ok (.aload_n 0, 1) := by decide +kernel
theorem dL_law_441 : decode cL_law 441 = .ok (.iload_n 3, 1) := by decide +kernel
theorem dL_law_442 : decode cL_law 442 = .ok (.iconst 3, 1) := by decide +kernel
theorem dL_law_443 : decode cL_law 443 = .ok (.iadd, 1) := by decide +kernel
theorem dL_law_444 : decode cL_law 444 = .ok (.iaload, 1) := by decide +kernel
theorem dL_law_445 : decode cL_law 445 = .ok (.invokevirtual 60, 3) := by decide +kernel
theorem dL_law_448 : decode cL_law 448 = .ok (.if_icmp .eq 291, 3) := by decide +kernel
theorem dL_law_451 : decode cL_law 451 = .ok (.iconst 0, 1) := by decide +kernel
theorem dL_law_452 : decode cL_law 452 = .ok (.ireturn, 1) := by decide +kernel
theorem dL_law_453 : decode cL_law 453 = .ok (.aload_n 1, 1) := by decide +kernel
theorem dL_law_454 : decode cL_law 454 = .ok (.aload_n 0, 1) := by decide +kernel
theorem dL_law_455 : decode cL_law 455 = .ok (.iload_n 3, 1) := by decide +kernel
theorem dL_law_456 : decode cL_law 456 = .ok (.iconst 1, 1) := by decide +kernel
theorem dL_law_457 : decode cL_law 457 = .ok (.iadd, 1) := by decide +kernel
theorem dL_law_458 : decode cL_law 458 = .ok (.iaload, 1) := by decide +kernel
theorem dL_law_459 : decode cL_law 459 = .ok (.aload_n 0, 1) := by decide +kernel
theorem dL_law_460 : decode cL_law 460 = .ok (.iload_n 3, 1) := by decide +kernel
theorem dL_law_461 : decode cL_law 461 = .ok (.iconst 2, 1) := by decide +kernel
theorem dL_law_462 : decode cL_law 462 = .ok (.iadd, 1) := by decide +kernel
theorem dL_law_463 : decode cL_law 463 = .ok (.iaload, 1) := by decide +kernel
theorem dL_law_464 : decode cL_law 464 = .ok (.invokevirtual 61, 3) := by decide +kernel
theorem dL_law_467 : decode cL_law 467 = .ok (.aload_n 2, 1) := by decide +kernel
theorem dL_law_468 : decode cL_law 468 = .ok (.aload_n 0, 1) := by decide +kernel
theorem dL_law_469 : decode cL_law 469 = .ok (.iload_n 3, 1) := by decide +kernel
theorem dL_law_470 : decode cL_law 470 = .ok (.iconst 1, 1) := by decide +kernel
theorem dL_law_471 : decode cL_law 471 = .ok (.iadd, 1) := by decide +kernel
theorem dL_law_472 : decode cL_law 472 = .ok (.iaload, 1) := by decide +kernel
theorem dL_law_473 : decode cL_law 473 = .ok (.aload_n 0, 1) := by decide +kernel
theorem dL_law_474 : decode cL_law 474 = .ok (.iload_n 3, 1) := by decide +kernel
theorem dL_law_475 : decode cL_law 475 = .ok (.iconst 2, 1) := by decide +kernel
theorem dL_law_476 : decode cL_law 476 = .ok (.iadd, 1) := by decide +kernel
theorem dL_law_477 : decode cL_law 477 = .ok (.iaload, 1) := by decide +kernel
theorem dL_law_478 : decode cL_law 478 = .ok (.invokevirtual 64, 3) := by decide +kernel
theorem dL_law_481 : decode cL_law 481 = .ok (.if_icmp .eq 258, 3) := by decide +kernel
theorem dL_law_484 : decode cL_law 484 = .ok (.iconst 0, 1) := by decide +kernel
theorem dL_law_485 : decode cL_law 485 = .ok (.ireturn, 1) := by decide +kernel
theorem dL_law_486 : decode cL_law 486 = .ok (.aload_n 1, 1) := by decide +kernel
theorem dL_law_487 : decode cL_law 487 = .ok (.aload_n 0, 1) := by decide +kernel
theorem dL_law_488 : decode cL_law 488 = .ok (.iload_n 3, 1) := by decide +kernel
theorem dL_law_489 : decode cL_law 489 = .ok (.iconst 1, 1) := by decide +kernel
theorem dL_law_490 : decode cL_law 490 = .ok (.iadd, 1) := by decide +kernel
theorem dL_law_491 : decode cL_law 491 = .ok (.iaload, 1) := by decide +kernel
theorem dL_law_492 : decode cL_law 492 = .ok (.invokevirtual 65, 3) := by decide +kernel
theorem dL_law_495 : decode cL_law 495 = .ok (.aload_n 2, 1) := by decide +kernel
theorem dL_law_496 : decode cL_law 496 = .ok (.aload_n 0, 1) := by decide +kernel
theorem dL_law_497 : decode cL_law 497 = .ok (.iload_n 3, 1) := by decide +kernel
theorem dL_law_498 : decode cL_law 498 = .ok (.iconst 1, 1) := by decide +kernel
theorem dL_law_499 : decode cL_law 499 = .ok (.iadd, 1) := by decide +kernel
theorem dL_law_500 : decode cL_law 500 = .ok (.iaload, 1) := by decide +kernel
theorem dL_law_501 : decode cL_law 501 = .ok (.invokevirtual 68, 3) := by decide +kernel
theorem dL_law_504 : decode cL_law 504 = .ok (.if_icmp .eq 235, 3) := by decide +kernel
theorem dL_law_507 : decode cL_law 507 = .ok (.iconst 0, 1) := by decide +kernel
theorem dL_law_508 : decode cL_law 508 = .ok (.ireturn, 1) := by decide +kernel
theorem dL_law_509 : decode cL_law 509 = .ok (.aload_n 1, 1) := by decide +kernel
theorem dL_law_510 : decode cL_law 510 = .ok (.aload_n 0, 1) := by decide +kernel
theorem dL_law_511 : decode cL_law 511 = .ok (.iload_n 3, 1) := by decide +kernel
theorem dL_law_512 : decode cL_law 512 = .ok (.iconst 1, 1) := by decide +kernel
theorem dL_law_513 : decode cL_law 513 = .ok (.iadd, 1) := by decide +kernel
theorem dL_law_514 : decode cL_law 514 = .ok (.iaload, 1) := by decide +kernel
theorem dL_law_515 : decode cL_law 515 = .ok (.aload_n 0, 1) := by decide +kernel
theorem dL_law_516 : decode cL_law 516 = .ok (.iload_n 3, 1) := by decide +kernel
theorem dL_law_517 : decode cL_law 517 = .ok (.iconst 2, 1) := by decide +kernel
theorem dL_law_518 : decode cL_law 518 = .ok (.iadd, 1) := by decide +kernel
theorem dL_law_519 : decode cL_law 519 = .ok (.iaload, 1) := by decide +kernel
theorem dL_law_520 : decode cL_law 520 = .ok (.invokevirtual 69, 3) := by decide +kernel
theorem dL_law_523 : decode cL_law 523 = .ok (.aload_n 2, 1) := by decide +kernel
theorem dL_law_524 : decode cL_law 524 = .ok (.aload_n 0, 1) := by decide +kernel
theorem dL_law_525 : decode cL_law 525 = .ok (.iload_n 3, 1) := by decide +kernel
theorem dL_law_526 : decode cL_law 526 = .ok (.iconst 1, 1) := by decide +kernel
theorem dL_law_527 : decode cL_law 527 = .ok (.iadd, 1) := by decide +kernel
theorem dL_law_528 : decode cL_law 528 = .ok (.iaload, 1) := by decide +kernel
theorem dL_law_529 : decode cL_law 529 = .ok (.aload_n 0, 1) := by decide +kernel
theorem dL_law_530 : decode cL_law 530 = .ok (.iload_n 3, 1) := by decide +kernel
theorem dL_law_531 : decode cL_law 531 = .ok (.iconst 2, 1) := by decide +kernel
theorem dL_law_532 : decode cL_law 532 = .ok (.iadd, 1) := by decide +kernel
theorem dL_law_533 : decode cL_law 533 = .ok (.iaload, 1) := by decide +kernel
theorem dL_law_534 : decode cL_law 534 = .ok (.invokevirtual 72, 3) := by decide +kernel
theorem dL_law_537 : decode cL_law 537 = .ok (.if_icmp .eq 202, 3) := by decide +kernel
theorem dL_law_540 : decode cL_law 540 = .ok (.iconst 0, 1) := by decide +kernel
theorem dL_law_541 : decode cL_law 541 = .ok (.ireturn, 1) := by decide +kernel
theorem dL_law_542 : decode cL_law 542 = .ok (.aload_n 1, 1) := by decide +kernel
theorem dL_law_543 : decode cL_law 543 = .ok (.aload_n 0, 1) := by decide +kernel
theorem dL_law_544 : decode cL_law 544 = .ok (.iload_n 3, 1) := by decide +kernel
theorem dL_law_545 : decode cL_law 545 = .ok (.iconst 1, 1) := by decide +kernel
theorem dL_law_546 : decode cL_law 546 = .ok (.iadd, 1) := by decide +kernel
theorem dL_law_547 : decode cL_law 547 = .ok (.iaload, 1) := by decide +kernel
theorem dL_law_548 : decode cL_law 548 = .ok (.aload_n 0, 1) := by decide +kernel
theorem dL_law_549 : decode cL_law 549 = .ok (.iload_n 3, 1) := by decide +kernel
theorem dL_law_550 : decode cL_law 550 = .ok (.iconst 2, 1) := by decide +kernel
theorem dL_law_551 : decode cL_law 551 = .ok (.iadd, 1) := by decide +kernel
theorem dL_law_552 : decode cL_law 552 = .ok (.iaload, 1) := by decide +kernel
theorem dL_law_553 : decode cL_law 553 = .ok (.invokevirtual 73, 3) := by decide +kernel
theorem dL_law_556 : decode cL_law 556 = .ok (.aload_n 2, 1) := by decide +kernel
theorem dL_law_557 : decode cL_law 557 = .ok (.aload_n 0, 1) := by decide +kernel
theorem dL_law_558 : decode cL_law 558 = .ok (.iload_n 3, 1) := by decide +kernel
theorem dL_law_559 : decode cL_law 559 = .ok (.iconst 1, 1) := by decide +kernel
theorem dL_law_560 : decode cL_law 560 = .ok (.iadd, 1) := by decide +kernel
theorem dL_law_561 : decode cL_law 561 = .ok (.iaload, 1) := by decide +kernel
theorem dL_law_562 : decode cL_law 562 = .ok (.aload_n 0, 1) := by decide +kernel
theorem dL_law_563 : decode cL_law 563 = .ok (.iload_n 3, 1) := by decide +kernel
theorem dL_law_564 : decode cL_law 564 = .ok (.iconst 2, 1) := by decide +kernel
theorem dL_law_565 : decode cL_law 565 = .ok (.iadd, 1) := by decide +kernel
theorem dL_law_566 : decode cL_law 566 = .ok (.iaload, 1) := by decide +kernel
theorem dL_law_567 : decode cL_law 567 = .ok (.invokevirtual 76, 3) := by decide +kernel
theorem dL_law_570 : decode cL_law 570 = .ok (.if_icmp .eq 169, 3) := by decide +kernel
theorem dL_law_573 : decode cL_law 573 = .ok (.iconst 0, 1) := by decide +kernel
theorem dL_law_574 : decode cL_law 574 = .ok (.ireturn, 1) := by decide +kernel
theorem dL_law_575 : decode cL_law 575 = .ok (.aload_n 1, 1) := by decide +kernel
theorem dL_law_576 : decode cL_law 576 = .ok (.aload_n 0, 1) := by decide +kernel
theorem dL_law_577 : decode cL_law 577 = .ok (.iload_n 3, 1) := by decide +kernel
theorem dL_law_578 : decode cL_law 578 = .ok (.iconst 1, 1) := by decide +kernel
theorem dL_law_579 : decode cL_law 579 = .ok (.iadd, 1) := by decide +kernel
theorem dL_law_580 : decode cL_law 580 = .ok (.iaload, 1) := by decide +kernel
theorem dL_law_581 : decode cL_law 581 = .ok (.invokevirtual 77, 3) := by decide +kernel
theorem dL_law_584 : decode cL_law 584 = .ok (.aload_n 2, 1) := by decide +kernel
theorem dL_law_585 : decode cL_law 585 = .ok (.aload_n 0, 1) := by decide +kernel
theorem dL_law_586 : decode cL_law 586 = .ok (.iload_n 3, 1) := by decide +kernel
theorem dL_law_587 : decode cL_law 587 = .ok (.iconst 1, 1) := by decide +kernel
theorem dL_law_588 : decode cL_law 588 = .ok (.iadd, 1) := by decide +kernel
theorem dL_law_589 : decode cL_law 589 = .ok (.iaload, 1) := by decide +kernel
theorem dL_law_590 : decode cL_law 590 = .ok (.invokevirtual 80, 3) := by decide +kernel
theorem dL_law_593 : decode cL_law 593 = .ok (.if_icmp .eq 146, 3) := by decide +kernel
theorem dL_law_596 : decode cL_law 596 = .ok (.iconst 0, 1) := by decide +kernel
theorem dL_law_597 : decode cL_law 597 = .ok (.ireturn, 1) := by decide +kernel
theorem dL_law_598 : decode cL_law 598 = .ok (.aload_n 1, 1) := by decide +kernel
theorem dL_law_599 : decode cL_law 599 = .ok (.aload_n 0, 1) := by decide +kernel
theorem dL_law_600 : decode cL_law 600 = .ok (.iload_n 3, 1) := by decide +kernel
theorem dL_law_601 : decode cL_law 601 = .ok (.iconst 1, 1) := by decide +kernel
theorem dL_law_602 : decode cL_law 602 = .ok (.iadd, 1) := by decide +kernel
theorem dL_law_603 : decode cL_law 603 = .ok (.iaload, 1) := by decide +kernel
theorem dL_law_604 : decode cL_law 604 = .ok (.aload_n 0, 1) := by decide +kernel
theorem dL_law_605 : decode cL_law 605 = .ok (.iload_n 3, 1) := by decide +kernel
theorem dL_law_606 : decode cL_law 606 = .ok (.iconst 2, 1) := by decide +kernel
theorem dL_law_607 : decode cL_law 607 = .ok (.iadd, 1) := by decide +kernel
theorem dL_law_608 : decode cL_law 608 = .ok (.iaload, 1) := by decide +kernel
theorem dL_law_609 : decode cL_law 609 = .ok (.invokevirtual 81, 3) := by decide +kernel
theorem dL_law_612 : decode cL_law 612 = .ok (.aload_n 2, 1) := by decide +kernel
theorem dL_law_613 : decode cL_law 613 = .ok (.aload_n 0, 1) := by decide +kernel
theorem dL_law_614 : decode cL_law 614 = .ok (.iload_n 3, 1) := by decide +kernel
theorem dL_law_615 : decode cL_law 615 = .ok (.iconst 1, 1) := by decide +kernel
theorem dL_law_616 : decode cL_law 616 = .ok (.iadd, 1) := by decide +kernel
theorem dL_law_617 : decode cL_law 617 = .ok (.iaload, 1) := by decide +kernel
theorem dL_law_618 : decode cL_law 618 = .ok (.aload_n 0, 1) := by decide +kernel
theorem dL_law_619 : decode cL_law 619 = .ok (.iload_n 3, 1) := by decide +kernel
theorem dL_law_620 : decode cL_law 620 = .ok (.iconst 2, 1) := by decide +kernel
theorem dL_law_621 : decode cL_law 621 = .ok (.iadd, 1) := by decide +kernel
theorem dL_law_622 : decode cL_law 622 = .ok (.iaload, 1) := by decide +kernel
theorem dL_law_623 : decode cL_law 623 = .ok (.invokevirtual 84, 3) := by decide +kernel
theorem dL_law_626 : decode cL_law 626 = .ok (.if_icmp .eq 113, 3) := by decide +kernel
theorem dL_law_629 : decode cL_law 629 = .ok (.iconst 0, 1) := by decide +kernel
theorem dL_law_630 : decode cL_law 630 = .ok (.ireturn, 1) := by decide +kernel
theorem dL_law_631 : decode cL_law 631 = .ok (.aload_n 1, 1) := by decide +kernel
theorem dL_law_632 : decode cL_law 632 = .ok (.aload_n 0, 1) := by decide +kernel
theorem dL_law_633 : decode cL_law 633 = .ok (.iload_n 3, 1) := by decide +kernel
theorem dL_law_634 : decode cL_law 634 = .ok (.iconst 1, 1) := by decide +kernel
theorem dL_law_635 : decode cL_law 635 = .ok (.iadd, 1) := by decide +kernel
theorem dL_law_636 : decode cL_law 636 = .ok (.iaload, 1) := by decide +kernel
theorem dL_law_637 : decode cL_law 637 = .ok (.invokevirtual 85, 3) := by decide +kernel
theorem dL_law_640 : decode cL_law 640 = .ok (.aload_n 2, 1) := by decide +kernel
theorem dL_law_641 : decode cL_law 641 = .ok (.aload_n 0, 1) := by decide +kernel
theorem dL_law_642 : decode cL_law 642 = .ok (.iload_n 3, 1) := by decide +kernel
theorem dL_law_643 : decode cL_law 643 = .ok (.iconst 1, 1) := by decide +kernel
theorem dL_law_644 : decode cL_law 644 = .ok (.iadd, 1) := by decide +kernel
theorem dL_law_645 : decode cL_law 645 = .ok (.iaload, 1) := by decide +kernel
theorem dL_law_646 : decode cL_law 646 = .ok (.invokevirtual 88, 3) := by decide +kernel
theorem dL_law_649 : decode cL_law 649 = .ok (.if_icmp .eq 90, 3) := by decide +kernel
theorem dL_law_652 : decode cL_law 652 = .ok (.iconst 0, 1) := by decide +kernel
theorem dL_law_653 : decode cL_law 653 = .ok (.ireturn, 1) := by decide +kernel
theorem dL_law_654 : decode cL_law 654 = .ok (.aload_n 1, 1) := by decide +kernel
theorem dL_law_655 : decode cL_law 655 = .ok (.invokevirtual 89, 3) := by decide +kernel
theorem dL_law_658 : decode cL_law 658 = .ok (.aload_n 2, 1) := by decide +kernel
theorem dL_law_659 : decode cL_law 659 = .ok (.invokevirtual 92, 3) := by decide +kernel
theorem dL_law_662 : decode cL_law 662 = .ok (.if_icmp .eq 77, 3) := by decide +kernel
theorem dL_law_665 : decode cL_law 665 = .ok (.iconst 0, 1) := by decide +kernel
theorem dL_law_666 : decode cL_law 666 = .ok (.ireturn, 1) := by decide +kernel
theorem dL_law_667 : decode cL_law 667 = .ok (.aload_n 1, 1) := by decide +kernel
theorem dL_law_668 : decode cL_law 668 = .ok (.aload_n 0, 1) := by decide +kernel
theorem dL_law_669 : decode cL_law 669 = .ok (.iload_n 3, 1) := by decide +kernel
theorem dL_law_670 : decode cL_law 670 = .ok (.iconst 1, 1) := by decide +kernel
theorem dL_law_671 : decode cL_law 671 = .ok (.iadd, 1) := by decide +kernel
theorem dL_law_672 : decode cL_law 672 = .ok (.iaload, 1) := by decide +kernel
theorem dL_law_673 : decode cL_law 673 = .ok (.invokevirtual 93, 3) := by decide +kernel
theorem dL_law_676 : decode cL_law 676 = .ok (.aload_n 2, 1) := by decide +kernel
theorem dL_law_677 : decode cL_law 677 = .ok (.aload_n 0, 1) := by decide +kernel
theorem dL_law_678 : decode cL_law 678 = .ok (.iload_n 3, 1) := by decide +kernel
theorem dL_law_679 : decode cL_law 679 = .ok (.iconst 1, 1) := by decide +kernel
theorem dL_law_680 : decode cL_law 680 = .ok (.iadd, 1) := by decide +kernel
theorem dL_law_681 : decode cL_law 681 = .ok (.iaload, 1) := by decide +kernel
theorem dL_law_682 : decode cL_law 682 = .ok (.invokevirtual 96, 3) := by decide +kernel
theorem dL_law_685 : decode cL_law 685 = .ok (.if_icmp .eq 54, 3) := by decide +kernel
theorem dL_law_688 : decode cL_law 688 = .ok (.iconst 0, 1) := by decide +kernel
theorem dL_law_689 : decode cL_law 689 = .ok (.ireturn, 1) := by decide +kernel
theorem dL_law_690 : decode cL_law 690 = .ok (.aload_n 1, 1) := by decide +kernel
theorem dL_law_691 : decode cL_law 691 = .ok (.invokevirtual 97, 3) := by decide +kernel
theorem dL_law_694 : decode cL_law 694 = .ok (.aload_n 2, 1) := by decide +kernel
theorem dL_law_695 : decode cL_law 695 = .ok (.invokevirtual 100, 3) := by decide +kernel
theorem dL_law_698 : decode cL_law 698 = .ok (.if_icmp .eq 41, 3) := by decide +kernel
theorem dL_law_701 : decode cL_law 701 = .ok (.iconst 0, 1) := by decide +kernel
theorem dL_law_702 : decode cL_law 702 = .ok (.ireturn, 1) := by decide +kernel
theorem dL_law_703 : decode cL_law 703 = .ok (.aload_n 1, 1) := by decide +kernel
theorem dL_law_704 : decode cL_law 704 = .ok (.aload_n 0, 1) := by decide +kernel
theorem dL_law_705 : decode cL_law 705 = .ok (.iload_n 3, 1) := by decide +kernel
theorem dL_law_706 : decode cL_law 706 = .ok (.iconst 1, 1) := by decide +kernel
theorem dL_law_707 : decode cL_law 707 = .ok (.iadd, 1) := by decide +kernel
theorem dL_law_708 : decode cL_law 708 = .ok (.iaload, 1) := by decide +kernel
theorem dL_law_709 : decode cL_law 709 = .ok (.invokevirtual 101, 3) := by decide +kernel
theorem dL_law_712 : decode cL_law 712 = .ok (.aload_n 2, 1) := by decide +kernel
theorem dL_law_713 : decode cL_law 713 = .ok (.aload_n 0, 1) := by decide +kernel
theorem dL_law_714 : decode cL_law 714 = .ok (.iload_n 3, 1) := by decide +kernel
theorem dL_law_715 : decode cL_law 715 = .ok (.iconst 1, 1) := by decide +kernel
theorem dL_law_716 : decode cL_law 716 = .ok (.iadd, 1) := by decide +kernel
theorem dL_law_717 : decode cL_law 717 = .ok (.iaload, 1) := by decide +kernel
theorem dL_law_718 : decode cL_law 718 = .ok (.invokevirtual 104, 3) := by decide +kernel
theorem dL_law_721 : decode cL_law 721 = .ok (.if_icmp .eq 18, 3) := by decide +kernel
theorem dL_law_724 : decode cL_law 724 = .ok (.iconst 0, 1) := by decide +kernel
theorem dL_law_725 : decode cL_law 725 = .ok (.ireturn, 1) := by decide +kernel
theorem dL_law_726 : decode cL_law 726 = .ok (.aload_n 1, 1) := by decide +kernel
theorem dL_law_727 : decode cL_law 727 = .ok (.invokevirtual 105, 3) := by decide +kernel
theorem dL_law_730 : decode cL_law 730 = .ok (.aload_n 2, 1) := by decide +kernel
theorem dL_law_731 : decode cL_law 731 = .ok (.invokevirtual 108, 3) := by decide +kernel
theorem dL_law_734 : decode cL_law 734 = .ok (.if_icmp .eq 5, 3) := by decide +kernel
theorem dL_law_737 : decode cL_law 737 = .ok (.iconst 0, 1) := by decide +kernel
theorem dL_law_738 : decode cL_law 738 = .ok (.ireturn, 1) := by decide +kernel
theorem dL_law_739 : decode cL_law 739 = .ok (.iinc 3 4, 3) := by decide +kernel
theorem dL_law_742 : decode cL_law 742 = .ok (.goto (-724), 3) := by decide +kernel
theorem dL_law_745 : decode cL_law 745 = .ok (.iconst 1, 1) := by decide +kernel
theorem dL_law_746 : decode cL_law 746 = .ok (.ireturn, 1) := by decide +kernel
end
section
/-! Rows of my own over the kit: contracts of one shape, calls by one row each. -/
def nws : List Cond := [.fieldLinkNest RX3 28 "DriftGrinders$Row" "length" "I" "DriftGrinders", .fieldLinkNest RX1 152 "DriftGrinders$Row" "length" "I" "DriftGrinders", .fieldLinkNest RX3 24 "DriftGrinders$Row" "total" "I" "DriftGrinders", .fieldLinkNest RX1 108 "DriftGrinders$Row" "total" "I" "DriftGrinders", .fieldLinkNest RX1 137 "DriftGrinders$Burr" "dial" "I" "DriftGrinders", .fieldLinkNest RX1 140 "DriftGrinders$Burr" "warmth" "I" "DriftGrinders", .fieldLinkNest RX1 194 "DriftGrinders$Shots" "kept" "I" "DriftGrinders", .fieldLinkNest RX1 234 "DriftGrinders$Shots" "made" "I" "DriftGrinders", .fieldLinkNest RX7 81 "DriftGrinders$Grinder" "hopper" "LDriftGrinders$Hopper;" "DriftGrinders", .fieldLinkNest RX7 89 "DriftGrinders$Grinder" "chute" "LDriftGrinders$Row;" "DriftGrinders", .fieldLinkNest RX7 93 "DriftGrinders$Grinder" "basket" "LDriftGrinders$Row;" "DriftGrinders", .fieldLinkNest RX7 100 "DriftGrinders$Grinder" "shots" "LDriftGrinders$Shots;" "DriftGrinders", .fieldLinkNest RX7 104 "DriftGrinders$Grinder" "settings" "[I" "DriftGrinders", .fieldLinkNest RX7 129 "DriftGrinders$History" "states" "I" "DriftGrinders", .fieldLinkNest RX7 133 "DriftGrinders$Orders" "length" "I" "DriftGrinders", .fieldLinkNest RX7 157 "DriftGrinders$Orders" "ordersDone" "I" "DriftGrinders", .fieldLinkNest RX1 200 "DriftGrinders" "SETTING_LEAST" "[I" "DriftGrinders", .fieldLinkNest RX1 203 "DriftGrinders" "SETTING_MOST" "[I" "DriftGrinders", .methodLinkNest RX7 9 ⟨"DriftGrinders$History", "<init>", "()V"⟩ "DriftGrinders", .methodLinkNest RX2 11 ⟨"DriftGrinders$Grinder", "<init>", "()V"⟩ "DriftGrinders", .methodLinkNest RX1 11 ⟨"DriftGrinders$Hopper", "<init>", "()V"⟩ "DriftGrinders", .methodLinkNest RX1 20 ⟨"DriftGrinders$Burr", "<init>", "()V"⟩ "DriftGrinders", .methodLinkNest RX1 42 ⟨"DriftGrinders$Shots", "<init>", "()V"⟩ "DriftGrinders", .methodLinkNest RX7 18 ⟨"DriftGrinders$Orders", "<init>", "()V"⟩ "DriftGrinders", .methodLinkNest RX7 25 ⟨"DriftGrinders$Grinder", "<init>", "()V"⟩ "DriftGrinders", .methodLinkNest RX1 89 ⟨"DriftGrinders", "isZeroOrOne", "(I)Z"⟩ "DriftGrinders", .methodLinkNest RX3 46 ⟨"DriftGrinders", "markOf", "(III)I"⟩ "DriftGrinders", .methodLinkNest RX0 37 ⟨"DriftGrinders", "fallOf", "(I)I"⟩ "DriftGrinders", .methodLinkNest RX1 182 ⟨"DriftGrinders", "kindOfMark", "(I)I"⟩ "DriftGrinders", .methodLinkNest RX1 188 ⟨"DriftGrinders", "gapOfMark", "(I)I"⟩ "DriftGrinders", .methodLinkNest RX1 191 ⟨"DriftGrinders", "flowOf", "(II)I"⟩ "DriftGrinders", .methodLinkNest RX1 207 ⟨"DriftGrinders", "burrOfMark", "(I)I"⟩ "DriftGrinders", .methodLinkNest RX1 224 ⟨"DriftGrinders", "markOf", "(III)I"⟩ "DriftGrinders"]
def NW (U : State) : Prop := ∀ w ∈ nws, va_Nw w U
def nw_is : Cond → Bool
  | .fieldLinkNest .. => true
  | .methodLinkNest .. => true
  | _ => false
theorem nws_ok : ∀ w ∈ nws, nw_is w = true := by decide +kernel
theorem nw_warm {w : Cond} (h : nw_is w = true) {s U : State} (hW : s.WarmedH U.vm) (hZ : va_Nw w s) : va_Nw w U := by
  cases w <;> first | exact va_Nw.warmF hW hZ | exact va_Nw.warmM hW hZ | cases h
theorem nw_on {w : Cond} (h : nw_is w = true) : w.onTables = true := by
  cases w <;> first | rfl | cases h
theorem NW.warm {s U : State} (hW : s.WarmedH U.vm) (h : NW s) : NW U := fun w hw => nw_warm (nws_ok w hw) hW (h w hw)
theorem NW.same {u U : State} (hvm : u.vm = U.vm) (h : NW u) : NW U := fun w hw => va_Nw.same (nw_on (nws_ok w hw)) hvm (h w hw)
theorem NW.get {U : State} (h : NW U) (i : Nat) {w : Cond} (hi : nws[i]? = some w) {A : Array Value} : w.before A U = true := va_Nw.use (nw_on (nws_ok w (List.mem_of_getElem? hi))) (h w (List.mem_of_getElem? hi))
theorem NW.nw {U : State} (h : NW U) (i : Nat) {w : Cond} (hi : nws[i]? = some w) : va_Nw w U := h w (List.mem_of_getElem? hi)
/-! the text of a method as a partial function -/
def gd {β : Type} (c : Prop) [Decidable c] (x : Option β) : Option β := if c then x else none
theorem gd_s {β : Type} {c : Prop} [Decidable c] {x : Option β} {r : β} (h : gd c x = some r) : c ∧ x = some r := by
  unfold gd at h
  split at h
  · exact ⟨by assumption, h⟩
  · cases h
theorem gd_t {β : Type} {c : Prop} [Decidable c] {x : Option β} (h : c) : gd c x = x := if_pos h
theorem ob {α β : Type} {x : Option α} {f : α → Option β} {r : β} (h : x.bind f = some r) : ∃ a, x = some a ∧ f a = some r := Option.bind_eq_some_iff.mp h
theorem it {β : Type} {c : Prop} [Decidable c] {a b x : β} (hc : c) (h : (if c then a else b) = x) : a = x := by rwa [if_pos hc] at h
theorem ie {β : Type} {c : Prop} [Decidable c] {a b x : β} (hc : ¬ c) (h : (if c then a else b) = x) : b = x := by rwa [if_neg hc] at h
def lt {α β : Type} (x : α) (f : α → β) : β := f x
theorem lt_e {α β : Type} {x y : α} {f : α → β} {r : β} (e : y = x) (h : lt x f = r) : f y = r := by subst e; exact h
theorem lt_v {α β : Type} (x : α) (f : α → β) : lt x f = f x := rfl
def FU : Nat := 20000
theorem gt_ne {x y : Int32} {k : Int} (h : ¬ x = y) (hy : y.toInt = k) : x.toInt ≠ k := fun q => h (Int32.toInt_inj.mp (q.trans hy.symm))
/-! contracts -/
abbrev tya (cI cC : ClassId) : List (ClassId × FieldType) := [(cI, .int), (cC, .char)]
def pw (D : va_G) (cI cC : ClassId) (w : va_W) (U : State) : Prop := va_P D vwCl w U.heap ∧ va_K D vwCl (tya cI cC) U ∧ va_D (fun _ => True) w ∧ NW U
def ad (w : va_W) : Nat → Prop := fun q => ∃ (k : Nat) (e : va_E), w[k]? = some (q, e)
theorem ad.in {w : va_W} {k : Nat} {q : Nat × va_E} (h : w[k]? = some q) : ad w q.1 := ⟨k, q.2, h⟩
theorem pw.fb {D : va_G} {cI cC : ClassId} {w : va_W} {as : List Value} : FrameBlind (va_Pc as (pw D cI cC w)) := fun a U g mk q => by
  obtain ⟨q0, qP, qK, qD, qN⟩ := q
  exact ⟨q0, qP, va_K.moved (u := U) (U := U.calling g mk a) (Vm.Alike.refl U.vm) qK, qD, NW.same (u := U) (U := U.calling g mk a) rfl qN⟩
def RdI (l : Launch) (y : MethodName) (ws : List Cond) (rm : Room) (D : va_G) (cI cC : ClassId) (w : va_W) (as : List Value) (r : Int32) : Prop := Met l y ws rm (va_Pc as (pw D cI cC w)) (vp_Si (fun r' => r' = r)) 0 0 (fun _ => False)
def RdA (l : Launch) (y : MethodName) (ws : List Cond) (rm : Room) (D : va_G) (cI cC : ClassId) (w : va_W) (as : List Value) (r : Nat) : Prop := Met l y ws rm (va_Pc as (pw D cI cC w)) (va_Sr (fun k => k = r) (fun k => .ref k)) 0 0 (fun _ => False)
def WrI (l : Launch) (y : MethodName) (ws : List Cond) (rm : Room) (D : va_G) (cI cC : ClassId) (w w' : va_W) (as : List Value) (r : Int32) : Prop := Met l y ws rm (va_Pc as (pw D cI cC w)) (va_Qi (fun r' (_ : Unit) => r' = r) (fun _ t => va_P D vwCl w' t.heap) (ad w)) 0 0 (ad w)
def WrV (l : Launch) (y : MethodName) (ws : List Cond) (rm : Room) (D : va_G) (cI cC : ClassId) (w w' : va_W) (as : List Value) : Prop := Met l y ws rm (va_Pc as (pw D cI cC w)) (va_Qv (fun (_ : Unit) => True) (fun _ t => va_P D vwCl w' t.heap) (ad w)) 0 0 (ad w)
def WrA (l : Launch) (y : MethodName) (ws : List Cond) (rm : Room) (D : va_G) (cI cC : ClassId) (w w' : va_W) (as : List Value) (r : Nat) : Prop := Met l y ws rm (va_Pc as (pw D cI cC w)) (va_Qr (fun (_ : Unit) => True) (fun _ k t => k = r ∧ va_P D vwCl w' t.heap) (ad w)) 0 0 (ad w)
section EN
variable {l : Launch} {D : va_G} {cI cC : ClassId} {y : MethodName} {ws ws' : List Cond} {rm : Room} {cc : ByteArray} {n : Nat} {ty : FieldType} {w w' : va_W} {as : List Value} {r : Int32} {ra : Nat}
theorem en_R (hy : plainName y.cls = true) (hw : ws = Cond.code y cc n (some ty) :: ws') (hlen : (lg_sl as).length ≤ n)
    (body : ∀ (p : Program) (e : Env) (s : State) (m : MethodId) (args : Array Value) (below : List Frame) (meth : Method) (c : Code) (Q : State → Prop) (AA : Nat → Prop) (ls : Array Slot), p.tables.exec = Jvm.exec → c.code = cc → c.maxLocals = n → s.vm.findClass y.cls = some m.cls → (∀ w ∈ ws, w.before args s = true) → va_K D vwCl (tya cI cC) s → NW s → va_P D vwCl w s.heap → va_D AA w → lv_has ls n (lv_args 0 as) →
      (∀ (pc : Nat) (ls : Array Slot) (v : Int32), decode cc pc = .ok (.ireturn, 1) → narrow ty (.int v) = .int v → v = r → W p l e rm s m args below meth c s.heap [] 0 0 Q (F0 m pc ls [.int v])) →
      W p l e rm s m args below meth c s.heap [] 0 0 Q (F0 m 0 ls [])) : RdI l y ws rm D cI cC w as r := by
  refine Met.ofW (cc := cc) (maxL := n) (ret := some ty) hy hw ?_
  intro p e s m args below meth c s₁ B hml hv
  obtain ⟨rfl, hP, hK, hD, hN⟩ := hv
  have hts := atoms_spec (ws := ws) B.pre
  have hown : s.vm.findClass y.cls = some m.cls := findClass_of_methodNamed B.named
  have hlocks := B.notSynchronized
  have hl := lv_entry as hlen
  rw [lg_entry_eq]
  generalize (lg_sl as ++ List.replicate (n - (lg_sl as).length) Slot.unset).toArray = ls at hl ⊢
  refine body p e s m _ below meth c _ (ad w) ls B.exec B.bytes hml hown hts hK hN hP ⟨hD.1, fun k q hq => ad.in hq⟩ hl ?_
  intro pc ls v hd hn hv
  exact W.zret B.exec B.bytes B.returns hn (fun t ht _ => ⟨v, rfl, hv, ht⟩) (fun q h => by cases h) hd hlocks
theorem en_A {C : String} (hty : ty = .object C) (hy : plainName y.cls = true) (hw : ws = Cond.code y cc n (some ty) :: ws') (hlen : (lg_sl as).length ≤ n)
    (body : ∀ (p : Program) (e : Env) (s : State) (m : MethodId) (args : Array Value) (below : List Frame) (meth : Method) (c : Code) (Q : State → Prop) (AA : Nat → Prop) (ls : Array Slot), p.tables.exec = Jvm.exec → c.code = cc → c.maxLocals = n → s.vm.findClass y.cls = some m.cls → (∀ w ∈ ws, w.before args s = true) → va_K D vwCl (tya cI cC) s → NW s → va_P D vwCl w s.heap → va_D AA w → lv_has ls n (lv_args 0 as) →
      (∀ (pc : Nat) (ls : Array Slot) (v : Nat), decode cc pc = .ok (.areturn, 1) → v = ra → W p l e rm s m args below meth c s.heap [] 0 0 Q (F0 m pc ls [.ref v])) →
      W p l e rm s m args below meth c s.heap [] 0 0 Q (F0 m 0 ls [])) : RdA l y ws rm D cI cC w as ra := by
  refine Met.ofW (cc := cc) (maxL := n) (ret := some ty) hy hw ?_
  intro p e s m args below meth c s₁ B hml hv
  obtain ⟨rfl, hP, hK, hD, hN⟩ := hv
  have hts := atoms_spec (ws := ws) B.pre
  have hown : s.vm.findClass y.cls = some m.cls := findClass_of_methodNamed B.named
  have hlocks := B.notSynchronized
  have hl := lv_entry as hlen
  rw [lg_entry_eq]
  generalize (lg_sl as ++ List.replicate (n - (lg_sl as).length) Slot.unset).toArray = ls at hl ⊢
  refine body p e s m _ below meth c _ (ad w) ls B.exec B.bytes hml hown hts hK hN hP ⟨hD.1, fun k q hq => ad.in hq⟩ hl ?_
  intro pc ls v hd hv
  exact W.aret B.exec B.bytes B.returns (Or.inl ⟨C, hty⟩) (Or.inr ⟨v, rfl⟩) (fun t ht _ => ⟨v, rfl, hv, ht⟩) (fun q h => by cases h) hd hlocks
theorem en_W (hy : plainName y.cls = true) (hw : ws = Cond.code y cc n (some ty) :: ws') (hlen : (lg_sl as).length ≤ n)
    (body : ∀ (p : Program) (e : Env) (s : State) (m : MethodId) (args : Array Value) (below : List Frame) (meth : Method) (c : Code) (Q : State → Prop) (AA : Nat → Prop) (ls : Array Slot), p.tables.exec = Jvm.exec → c.code = cc → c.maxLocals = n → s.vm.findClass y.cls = some m.cls → (∀ w ∈ ws, w.before args s = true) → va_K D vwCl (tya cI cC) s → NW s → va_P D vwCl w s.heap → va_D AA w → va_S AA s.heap s.heap [] → lv_has ls n (lv_args 0 as) →
      (∀ (pc : Nat) (ls : Array Slot) (v : Int32) (H : Heap) (locs : List Loc), decode cc pc = .ok (.ireturn, 1) → narrow ty (.int v) = .int v → v = r → va_P D vwCl w' H → va_S AA s.heap H locs → W p l e rm s m args below meth c H locs 0 0 Q (F0 m pc ls [.int v])) →
      W p l e rm s m args below meth c s.heap [] 0 0 Q (F0 m 0 ls [])) : WrI l y ws rm D cI cC w w' as r := by
  refine Met.ofW (cc := cc) (maxL := n) (ret := some ty) hy hw ?_
  intro p e s m args below meth c s₁ B hml hv
  obtain ⟨rfl, hP, hK, hD, hN⟩ := hv
  have hts := atoms_spec (ws := ws) B.pre
  have hown : s.vm.findClass y.cls = some m.cls := findClass_of_methodNamed B.named
  have hlocks := B.notSynchronized
  have hl := lv_entry as hlen
  rw [lg_entry_eq]
  generalize (lg_sl as ++ List.replicate (n - (lg_sl as).length) Slot.unset).toArray = ls at hl ⊢
  refine body p e s m _ below meth c _ (ad w) ls B.exec B.bytes hml hown hts hK hN hP ⟨hD.1, fun k q hq => ad.in hq⟩ va_S.rf hl ?_
  intro pc ls v H locs hd hn hv hP hS
  exact W.zret B.exec B.bytes B.returns hn (fun t ht _ => ⟨⟨v, (), rfl, hv, by rw [ht]; exact hP⟩, hS.F ht⟩) hS.2.2 hd hlocks
theorem en_V (hy : plainName y.cls = true) (hw : ws = Cond.code y cc n none :: ws') (hlen : (lg_sl as).length ≤ n)
    (body : ∀ (p : Program) (e : Env) (s : State) (m : MethodId) (args : Array Value) (below : List Frame) (meth : Method) (c : Code) (Q : State → Prop) (AA : Nat → Prop) (ls : Array Slot), p.tables.exec = Jvm.exec → c.code = cc → c.maxLocals = n → s.vm.findClass y.cls = some m.cls → (∀ w ∈ ws, w.before args s = true) → va_K D vwCl (tya cI cC) s → NW s → va_P D vwCl w s.heap → va_D AA w → va_S AA s.heap s.heap [] → lv_has ls n (lv_args 0 as) →
      (∀ (pc : Nat) (ls : Array Slot) (H : Heap) (locs : List Loc), decode cc pc = .ok (.return_, 1) → va_P D vwCl w' H → va_S AA s.heap H locs → W p l e rm s m args below meth c H locs 0 0 Q (F0 m pc ls [])) →
      W p l e rm s m args below meth c s.heap [] 0 0 Q (F0 m 0 ls [])) : WrV l y ws rm D cI cC w w' as := by
  refine Met.ofW (cc := cc) (maxL := n) (ret := none) hy hw ?_
  intro p e s m args below meth c s₁ B hml hv
  obtain ⟨rfl, hP, hK, hD, hN⟩ := hv
  have hts := atoms_spec (ws := ws) B.pre
  have hown : s.vm.findClass y.cls = some m.cls := findClass_of_methodNamed B.named
  have hlocks := B.notSynchronized
  have hl := lv_entry as hlen
  rw [lg_entry_eq]
  generalize (lg_sl as ++ List.replicate (n - (lg_sl as).length) Slot.unset).toArray = ls at hl ⊢
  refine body p e s m _ below meth c _ (ad w) ls B.exec B.bytes hml hown hts hK hN hP ⟨hD.1, fun k q hq => ad.in hq⟩ va_S.rf hl ?_
  intro pc ls H locs hd hP hS
  exact W.vret B.exec B.bytes B.returns (fun t ht _ => ⟨⟨(), rfl, trivial, by rw [ht]; exact hP⟩, hS.F ht⟩) hS.2.2 hd hlocks
theorem en_WA {C : String} (hty : ty = .object C) (hy : plainName y.cls = true) (hw : ws = Cond.code y cc n (some ty) :: ws') (hlen : (lg_sl as).length ≤ n)
    (body : ∀ (p : Program) (e : Env) (s : State) (m : MethodId) (args : Array Value) (below : List Frame) (meth : Method) (c : Code) (Q : State → Prop) (AA : Nat → Prop) (ls : Array Slot), p.tables.exec = Jvm.exec → c.code = cc → c.maxLocals = n → s.vm.findClass y.cls = some m.cls → (∀ w ∈ ws, w.before args s = true) → va_K D vwCl (tya cI cC) s → NW s → va_P D vwCl w s.heap → va_D AA w → va_S AA s.heap s.heap [] → lv_has ls n (lv_args 0 as) →
      (∀ (pc : Nat) (ls : Array Slot) (v : Nat) (H : Heap) (locs : List Loc), decode cc pc = .ok (.areturn, 1) → v = ra → va_P D vwCl w' H → va_S AA s.heap H locs → W p l e rm s m args below meth c H locs 0 0 Q (F0 m pc ls [.ref v])) →
      W p l e rm s m args below meth c s.heap [] 0 0 Q (F0 m 0 ls [])) : WrA l y ws rm D cI cC w w' as ra := by
  refine Met.ofW (cc := cc) (maxL := n) (ret := some ty) hy hw ?_
  intro p e s m args below meth c s₁ B hml hv
  obtain ⟨rfl, hP, hK, hD, hN⟩ := hv
  have hts := atoms_spec (ws := ws) B.pre
  have hown : s.vm.findClass y.cls = some m.cls := findClass_of_methodNamed B.named
  have hlocks := B.notSynchronized
  have hl := lv_entry as hlen
  rw [lg_entry_eq]
  generalize (lg_sl as ++ List.replicate (n - (lg_sl as).length) Slot.unset).toArray = ls at hl ⊢
  refine body p e s m _ below meth c _ (ad w) ls B.exec B.bytes hml hown hts hK hN hP ⟨hD.1, fun k q hq => ad.in hq⟩ va_S.rf hl ?_
  intro pc ls v H locs hd hv hP hS
  exact W.aret B.exec B.bytes B.returns (Or.inl ⟨C, hty⟩) (Or.inr ⟨v, rfl⟩) (fun t ht _ => ⟨⟨(), v, rfl, trivial, hv, by rw [ht]; exact hP⟩, hS.F ht⟩) hS.2.2 hd hlocks
end EN
/-! worlds: cells written back to their places -/
def pu : List Nat → va_W → va_W → va_W
  | i :: is, q :: w, W => pu is w (W.set i q)
  | _, _, W => W
theorem pu_ad {A : Nat → Prop} : ∀ (is : List Nat) (wc wn W : va_W), is.map (fun i => W[i]?) = wc.map some → wn.map Prod.fst = wc.map Prod.fst → va_nd is = true → va_D A W → va_D A (pu is wn W)
  | [], wc, [], W, _, _, _, hD => hD
  | [], wc, q :: wn, W, _, _, _, hD => hD
  | i :: is, wc, [], W, _, _, _, hD => hD
  | i :: is, [], q :: wn, W, hC, hA, _, hD => by simp at hA
  | i :: is, c :: wc, q :: wn, W, hC, hA, hn, hD => by
    simp only [List.map_cons, List.cons.injEq] at hC hA
    simp only [va_nd, Bool.and_eq_true, decide_eq_true_eq] at hn
    have hi : W[i]? = some (q.1, c.2) := by rw [hC.1, hA.1]
    refine pu_ad is wc wn (W.set i q) ?_ hA.2 hn.2 (va_D.set (a := q.1) (e := q.2) hD hi)
    rw [← hC.2]
    refine List.map_congr_left (fun j hj => ?_)
    rw [List.getElem?_set_ne (fun e => hn.1 (e ▸ hj))]
theorem pu_P {A : Nat → Prop} {D : va_G} {H H1 : Heap} (hold : va_W) (hP1 : ∀ q ∈ hold, va_at D vwCl q H1) : ∀ (is : List Nat) (wc wn W : va_W), (∀ q ∈ wn, q ∈ hold) → is.map (fun i => W[i]?) = wc.map some → wn.map Prod.fst = wc.map Prod.fst → is.length = wn.length → va_nd is = true → va_D A W → (∀ (k : Nat) (q : Nat × va_E), W[k]? = some q → k ∉ is → va_at D vwCl q H1) → va_P D vwCl (pu is wn W) H1
  | [], wc, [], W, _, _, _, _, _, _, h => fun k q hq => h k q hq (by simp)
  | [], wc, q :: wn, W, _, _, _, hl, _, _, _ => by simp at hl
  | i :: is, wc, [], W, _, _, _, hl, _, _, _ => by simp at hl
  | i :: is, [], q :: wn, W, _, hC, hA, _, _, _, _ => by simp at hA
  | i :: is, c :: wc, q :: wn, W, hm, hC, hA, hl, hn, hD, h => by
    simp only [List.map_cons, List.cons.injEq] at hC hA
    simp only [va_nd, Bool.and_eq_true, decide_eq_true_eq] at hn
    have hi : W[i]? = some (q.1, c.2) := by rw [hC.1, hA.1]
    have hlt := (List.getElem?_eq_some_iff.mp hi).1
    refine pu_P hold hP1 is wc wn (W.set i q) (fun x hx => hm x (List.mem_cons_of_mem _ hx)) ?_ hA.2 (by simpa using hl) hn.2 (va_D.set (a := q.1) (e := q.2) hD hi) ?_
    · rw [← hC.2]
      refine List.map_congr_left (fun j hj => ?_)
      rw [List.getElem?_set_ne (fun e => hn.1 (e ▸ hj))]
    · intro k x hk hk2
      by_cases e : i = k
      · subst e
        rw [List.getElem?_set_self hlt] at hk
        cases hk
        exact hP1 _ (hm _ List.mem_cons_self)
      · rw [List.getElem?_set_ne e] at hk
        exact h k x hk (fun z => by rcases List.mem_cons.mp z with z | z; exact e z.symm; exact hk2 z)
theorem ad_sub {W wc : va_W} {A : Nat → Prop} (hD : va_D A W) (isC : List Nat) (hC : isC.map (fun i => W[i]?) = wc.map some) : ∀ q, ad wc q → A q := by
  intro q ⟨k, e, hk⟩
  have h1 : (isC.map (fun i => W[i]?))[k]? = some (some (q, e)) := by rw [hC, List.getElem?_map, hk]; rfl
  rw [List.getElem?_map] at h1
  cases hi : isC[k]? with
  | none => rw [hi] at h1; cases h1
  | some i => rw [hi] at h1; exact hD.2 i (q, e) (Option.some.inj h1)
theorem w_of {W wc : va_W} {D : va_G} {H : Heap} (hP : va_P D vwCl W H) (isC : List Nat) (hC : isC.map (fun i => W[i]?) = wc.map some) : va_P D vwCl wc H := by
  intro k q hk
  have h1 : (isC.map (fun i => W[i]?))[k]? = some (some q) := by rw [hC, List.getElem?_map, hk]; rfl
  rw [List.getElem?_map] at h1
  cases hi : isC[k]? with
  | none => rw [hi] at h1; cases h1
  | some i => rw [hi] at h1; exact hP i q (Option.some.inj h1)
theorem pu_all {A : Nat → Prop} {D : va_G} {H H1 : Heap} {W wc wn : va_W} (hP : va_P D vwCl W H) (hD : va_D A W) (isC : List Nat) (hC : isC.map (fun i => W[i]?) = wc.map some) (hA : wn.map Prod.fst = wc.map Prod.fst) (hnd : va_nd isC = true) (hP1 : va_P D vwCl wn H1) (hk : ∀ q : Nat, q < H.size → ¬ ad wc q → H1[q]? = H[q]?) : va_P D vwCl (pu isC wn W) H1 := by
  refine pu_P (A := A) wn (fun q hq => by obtain ⟨k, hk⟩ := List.getElem?_of_mem hq; exact hP1 k q hk) isC wc wn W (fun q h => h) hC hA ?_ hnd hD ?_
  · have e1 := congrArg List.length hC
    have e2 := congrArg List.length hA
    simp only [List.length_map] at e1 e2
    omega
  · intro k q hq hk2
    refine (hP k q hq).kept (hk q.1 ((hP k q hq).lt) ?_)
    rintro ⟨j, e, hj⟩
    have h1 : (isC.map (fun i => W[i]?))[j]? = some (some (q.1, e)) := by rw [hC, List.getElem?_map, hj]; rfl
    rw [List.getElem?_map] at h1
    cases hi : isC[j]? with
    | none => rw [hi] at h1; cases h1
    | some i =>
      rw [hi] at h1
      have e1 := hD.1 i k (q.1, e) q (Option.some.inj h1) hq rfl
      exact hk2 (e1 ▸ List.mem_of_getElem? hi)
section CL
variable {p : Program} {l : Launch} {e : Env} {R : Room} {s : State} {m : MethodId} {args : Array Value} {below : List Frame} {meth : Method} {c : Code} {H : Heap} {locs : List Loc} {cells slots : Nat} {Q : State → Prop}
variable {cc bytes : ByteArray} {pc maxL nL n index b : Nat} {ls : Array Slot} {rest st0 As : List Value} {A : Nat → Prop} {Ts ws : List Cond} {rm : Room} {own C host : String} {y : MethodName} {ret : Option FieldType} {D : va_G} {cI cC : ClassId} {W0 wc wn : va_W} {r : Int32} {ra : Nat} {H0 : Heap}
theorem cs_I {post : Int32 → Prop} {a : Array Value} (hr : va_Run p l e R s m args below meth c H locs cells slots 0 0 (F0 m pc ls st0) rest (vp_Si post a) (fun _ => False))
    (kk : ∀ r : Int32, post r → W p l e R s m args below meth c H locs cells slots Q (F0 m (pc + 3) ls (.int r :: rest))) : W p l e R s m args below meth c H locs cells slots Q (F0 m pc ls st0) := by
  intro T hT X
  obtain ⟨v, st₀, t, T', L, h0, X', hL, e1, e2, ⟨r, hv, hp, hq⟩, st⟩ := hr T hT X
  cases hv
  have hL0 : L = [] := List.eq_nil_iff_forall_not_mem.mpr (fun q hq => hL q hq)
  subst hL0
  rw [List.append_nil] at X'
  obtain ⟨t2, a1, b1⟩ := kk r hp T' (by rw [e1, hq, h0]) X'
  exact ⟨t2, st t2 a1, b1⟩
theorem cs_A {post : Nat → Prop} {a : Array Value} (hr : va_Run p l e R s m args below meth c H locs cells slots 0 0 (F0 m pc ls st0) rest (va_Sr post (fun k => .ref k) a) (fun _ => False))
    (kk : ∀ r : Nat, post r → W p l e R s m args below meth c H locs cells slots Q (F0 m (pc + 3) ls (.ref r :: rest))) : W p l e R s m args below meth c H locs cells slots Q (F0 m pc ls st0) := by
  intro T hT X
  obtain ⟨v, st₀, t, T', L, h0, X', hL, e1, e2, ⟨r, hv, hp, hq⟩, st⟩ := hr T hT X
  cases hv
  have hL0 : L = [] := List.eq_nil_iff_forall_not_mem.mpr (fun q hq => hL q hq)
  subst hL0
  rw [List.append_nil] at X'
  obtain ⟨t2, a1, b1⟩ := kk r hp T' (by rw [e1, hq, h0]) X'
  exact ⟨t2, st t2 a1, b1⟩
/-- what a caller's frame knows -/
def FX (p : Program) (m : MethodId) (c : Code) (cc : ByteArray) (nL : Nat) (s : State) (args : Array Value) (Ts : List Cond) (own : String) (D : va_G) (cI cC : ClassId) : Prop := CallFix p m c cc nL s args Ts own ∧ va_K D vwCl (tya cI cC) s ∧ NW s
theorem pw_at (hF : FX p m c cc nL s args Ts own D cI cC) (hP : va_P D vwCl W0 H) (hD : va_D A W0) (isC : List Nat) (hC : isC.map (fun i => W0[i]?) = wc.map some) (hnd : va_nd isC = true) {U : State} (hU : U.heap = H) (hW : s.WarmedH U.vm) : pw D cI cC wc U :=
  ⟨by rw [hU]; exact w_of hP isC hC, va_K.moved hW.alike hF.2.1, (hD.sub isC hnd hC).weaken (fun _ _ _ _ => trivial), NW.warm hW hF.2.2⟩

theorem cl_RV (hF : FX p m c cc nL s args Ts own D cI cC) (hP : va_P D vwCl W0 H) (hD : va_D A W0) (hM : RdI l y ws rm D cI cC wc (.ref b :: As) r) (cw : CallW R s args own C index y bytes maxL ret ws rm 0 0 n) (isC : List Nat) (hC : isC.map (fun i => W0[i]?) = wc.map some) (hnd : va_nd isC = true) (recv : ∃ cell : Cell, H[b]? = some cell ∧ cell.vm.isStatics = false ∧ s.vm.findClass C = some cell.cls) (hn : As.length = n) (hst : st0 = As.reverse ++ .ref b :: rest) (hsz : ls.size = nL) (hrm : (rest.map fun v => v.category).sum ≤ 8) (hdg : decode cc pc = .ok (.invokevirtual index, 3)) (hcs : cells ≤ R.cells ∧ slots ≤ R.slots)
    (kk : W p l e R s m args below meth c H locs cells slots Q (F0 m (pc + 3) ls (.int r :: rest))) : W p l e R s m args below meth c H locs cells slots Q (F0 m pc ls st0) := by
  refine cs_I (va_runV (As := As) (rest := rest) (g := F0 m pc ls st0) hF.1 hM cw ⟨pw.fb, recv, fun U hU hW => ⟨rfl, pw_at hF hP hD isC hC hnd hU hW⟩⟩ rfl hn hsz hst (lv_room hrm) hdg hcs) (fun r' hr => ?_)
  subst hr
  exact kk
theorem cl_AV (hF : FX p m c cc nL s args Ts own D cI cC) (hP : va_P D vwCl W0 H) (hD : va_D A W0) (hM : RdA l y ws rm D cI cC wc (.ref b :: As) ra) (cw : CallW R s args own C index y bytes maxL ret ws rm 0 0 n) (isC : List Nat) (hC : isC.map (fun i => W0[i]?) = wc.map some) (hnd : va_nd isC = true) (recv : ∃ cell : Cell, H[b]? = some cell ∧ cell.vm.isStatics = false ∧ s.vm.findClass C = some cell.cls) (hn : As.length = n) (hst : st0 = As.reverse ++ .ref b :: rest) (hsz : ls.size = nL) (hrm : (rest.map fun v => v.category).sum ≤ 8) (hdg : decode cc pc = .ok (.invokevirtual index, 3)) (hcs : cells ≤ R.cells ∧ slots ≤ R.slots)
    (kk : W p l e R s m args below meth c H locs cells slots Q (F0 m (pc + 3) ls (.ref ra :: rest))) : W p l e R s m args below meth c H locs cells slots Q (F0 m pc ls st0) := by
  refine cs_A (va_runV (As := As) (rest := rest) (g := F0 m pc ls st0) hF.1 hM cw ⟨pw.fb, recv, fun U hU hW => ⟨rfl, pw_at hF hP hD isC hC hnd hU hW⟩⟩ rfl hn hsz hst (lv_room hrm) hdg hcs) (fun r' hr => ?_)
  subst hr
  exact kk
theorem cl_WV (hF : FX p m c cc nL s args Ts own D cI cC) (hP : va_P D vwCl W0 H) (hD : va_D A W0) (hS : va_S A H0 H locs) (hM : WrI l y ws rm D cI cC wc wn (.ref b :: As) r) (cw : CallW R s args own C index y bytes maxL ret ws rm 0 0 n) (isC : List Nat) (hC : isC.map (fun i => W0[i]?) = wc.map some) (hnd : va_nd isC = true) (recv : ∃ cell : Cell, H[b]? = some cell ∧ cell.vm.isStatics = false ∧ s.vm.findClass C = some cell.cls) (hn : As.length = n) (hst : st0 = As.reverse ++ .ref b :: rest) (hsz : ls.size = nL) (hrm : (rest.map fun v => v.category).sum ≤ 8) (hdg : decode cc pc = .ok (.invokevirtual index, 3)) (hcs : cells ≤ R.cells ∧ slots ≤ R.slots) (hA : wn.map Prod.fst = wc.map Prod.fst)
    (kk : ∀ (H1 : Heap) (locs1 : List Loc), va_P D vwCl (pu isC wn W0) H1 → va_D A (pu isC wn W0) → va_S A H0 H1 locs1 → W p l e R s m args below meth c H1 locs1 cells slots Q (F0 m (pc + 3) ls (.int r :: rest))) : W p l e R s m args below meth c H locs cells slots Q (F0 m pc ls st0) := by
  refine va_calli (va_runV (As := As) (rest := rest) (g := F0 m pc ls st0) hF.1 hM cw ⟨pw.fb, recv, fun U hU hW => ⟨rfl, pw_at hF hP hD isC hC hnd hU hW⟩⟩ rfl hn hsz hst (lv_room hrm) hdg hcs) hS (fun q _ h => ad_sub hD isC hC q h) (ad_sub hD isC hC) (fun r' u t H1 locs1 ht hvm hr hB hz hk hS => ?_)
  subst hr
  rw [ht] at hB
  exact kk H1 locs1 (pu_all hP hD isC hC hA hnd hB hk) (pu_ad isC wc wn W0 hC hA hnd hD) hS
theorem cl_VV (hF : FX p m c cc nL s args Ts own D cI cC) (hP : va_P D vwCl W0 H) (hD : va_D A W0) (hS : va_S A H0 H locs) (hM : WrV l y ws rm D cI cC wc wn (.ref b :: As)) (cw : CallW R s args own C index y bytes maxL ret ws rm 0 0 n) (isC : List Nat) (hC : isC.map (fun i => W0[i]?) = wc.map some) (hnd : va_nd isC = true) (recv : ∃ cell : Cell, H[b]? = some cell ∧ cell.vm.isStatics = false ∧ s.vm.findClass C = some cell.cls) (hn : As.length = n) (hst : st0 = As.reverse ++ .ref b :: rest) (hsz : ls.size = nL) (hrm : (rest.map fun v => v.category).sum ≤ 8) (hdg : decode cc pc = .ok (.invokevirtual index, 3)) (hcs : cells ≤ R.cells ∧ slots ≤ R.slots) (hA : wn.map Prod.fst = wc.map Prod.fst)
    (kk : ∀ (H1 : Heap) (locs1 : List Loc), va_P D vwCl (pu isC wn W0) H1 → va_D A (pu isC wn W0) → va_S A H0 H1 locs1 → W p l e R s m args below meth c H1 locs1 cells slots Q (F0 m (pc + 3) ls rest)) : W p l e R s m args below meth c H locs cells slots Q (F0 m pc ls st0) := by
  refine va_callv (va_runV (As := As) (rest := rest) (g := F0 m pc ls st0) hF.1 hM cw ⟨pw.fb, recv, fun U hU hW => ⟨rfl, pw_at hF hP hD isC hC hnd hU hW⟩⟩ rfl hn hsz hst (lv_room hrm) hdg hcs) hS (fun q _ h => ad_sub hD isC hC q h) (ad_sub hD isC hC) (fun u t H1 locs1 ht hvm hr hB hz hk hS => ?_)
  rw [ht] at hB
  exact kk H1 locs1 (pu_all hP hD isC hC hA hnd hB hk) (pu_ad isC wc wn W0 hC hA hnd hD) hS
theorem cl_WAV (hF : FX p m c cc nL s args Ts own D cI cC) (hP : va_P D vwCl W0 H) (hD : va_D A W0) (hS : va_S A H0 H locs) (hM : WrA l y ws rm D cI cC wc wn (.ref b :: As) ra) (cw : CallW R s args own C index y bytes maxL ret ws rm 0 0 n) (isC : List Nat) (hC : isC.map (fun i => W0[i]?) = wc.map some) (hnd : va_nd isC = true) (recv : ∃ cell : Cell, H[b]? = some cell ∧ cell.vm.isStatics = false ∧ s.vm.findClass C = some cell.cls) (hn : As.length = n) (hst : st0 = As.reverse ++ .ref b :: rest) (hsz : ls.size = nL) (hrm : (rest.map fun v => v.category).sum ≤ 8) (hdg : decode cc pc = .ok (.invokevirtual index, 3)) (hcs : cells ≤ R.cells ∧ slots ≤ R.slots) (hA : wn.map Prod.fst = wc.map Prod.fst)
    (kk : ∀ (H1 : Heap) (locs1 : List Loc), va_P D vwCl (pu isC wn W0) H1 → va_D A (pu isC wn W0) → va_S A H0 H1 locs1 → W p l e R s m args below meth c H1 locs1 cells slots Q (F0 m (pc + 3) ls (.ref ra :: rest))) : W p l e R s m args below meth c H locs cells slots Q (F0 m pc ls st0) := by
  refine va_callr (va_runV (As := As) (rest := rest) (g := F0 m pc ls st0) hF.1 hM cw ⟨pw.fb, recv, fun U hU hW => ⟨rfl, pw_at hF hP hD isC hC hnd hU hW⟩⟩ rfl hn hsz hst (lv_room hrm) hdg hcs) hS (fun q _ h => ad_sub hD isC hC q h) (ad_sub hD isC hC) (fun u r' t H1 locs1 ht hvm hr hB hz hk hS => ?_)
  obtain ⟨hr, hB⟩ := hB
  subst hr
  rw [ht] at hB
  exact kk H1 locs1 (pu_all hP hD isC hC hA hnd hB hk) (pu_ad isC wc wn W0 hC hA hnd hD) hS
theorem cl_RS (hF : FX p m c cc nL s args Ts own D cI cC) (hP : va_P D vwCl W0 H) (hD : va_D A W0) (hM : RdI l y ws rm D cI cC wc As r) (cw : CallB R s args own index y bytes maxL ret ws rm 0 0 n ∧ (Cond.static y).before args s = true) (isC : List Nat) (hC : isC.map (fun i => W0[i]?) = wc.map some) (hnd : va_nd isC = true) (hn : As.length = n) (hst : st0 = As.reverse ++ rest) (hsz : ls.size = nL) (hrm : (rest.map fun v => v.category).sum ≤ 8) (hdg : decode cc pc = .ok (.invokestatic index, 3)) (hcs : cells ≤ R.cells ∧ slots ≤ R.slots)
    (kk : W p l e R s m args below meth c H locs cells slots Q (F0 m (pc + 3) ls (.int r :: rest))) : W p l e R s m args below meth c H locs cells slots Q (F0 m pc ls st0) := by
  refine cs_I (va_runS (As := As) (rest := rest) (g := F0 m pc ls st0) hF.1 hM cw ⟨pw.fb, fun U hU hW => ⟨rfl, pw_at hF hP hD isC hC hnd hU hW⟩⟩ rfl hn hsz hst (lv_room hrm) hdg hcs) (fun r' hr => ?_)
  subst hr
  exact kk
theorem cl_WS (hF : FX p m c cc nL s args Ts own D cI cC) (hP : va_P D vwCl W0 H) (hD : va_D A W0) (hS : va_S A H0 H locs) (hM : WrI l y ws rm D cI cC wc wn As r) (cw : CallB R s args own index y bytes maxL ret ws rm 0 0 n ∧ (Cond.static y).before args s = true) (isC : List Nat) (hC : isC.map (fun i => W0[i]?) = wc.map some) (hnd : va_nd isC = true) (hn : As.length = n) (hst : st0 = As.reverse ++ rest) (hsz : ls.size = nL) (hrm : (rest.map fun v => v.category).sum ≤ 8) (hdg : decode cc pc = .ok (.invokestatic index, 3)) (hcs : cells ≤ R.cells ∧ slots ≤ R.slots) (hA : wn.map Prod.fst = wc.map Prod.fst)
    (kk : ∀ (H1 : Heap) (locs1 : List Loc), va_P D vwCl (pu isC wn W0) H1 → va_D A (pu isC wn W0) → va_S A H0 H1 locs1 → W p l e R s m args below meth c H1 locs1 cells slots Q (F0 m (pc + 3) ls (.int r :: rest))) : W p l e R s m args below meth c H locs cells slots Q (F0 m pc ls st0) := by
  refine va_calli (va_runS (As := As) (rest := rest) (g := F0 m pc ls st0) hF.1 hM cw ⟨pw.fb, fun U hU hW => ⟨rfl, pw_at hF hP hD isC hC hnd hU hW⟩⟩ rfl hn hsz hst (lv_room hrm) hdg hcs) hS (fun q _ h => ad_sub hD isC hC q h) (ad_sub hD isC hC) (fun r' u t H1 locs1 ht hvm hr hB hz hk hS => ?_)
  subst hr
  rw [ht] at hB
  exact kk H1 locs1 (pu_all hP hD isC hC hA hnd hB hk) (pu_ad isC wc wn W0 hC hA hnd hD) hS
theorem cl_VS (hF : FX p m c cc nL s args Ts own D cI cC) (hP : va_P D vwCl W0 H) (hD : va_D A W0) (hS : va_S A H0 H locs) (hM : WrV l y ws rm D cI cC wc wn As) (cw : CallB R s args own index y bytes maxL ret ws rm 0 0 n ∧ (Cond.static y).before args s = true) (isC : List Nat) (hC : isC.map (fun i => W0[i]?) = wc.map some) (hnd : va_nd isC = true) (hn : As.length = n) (hst : st0 = As.reverse ++ rest) (hsz : ls.size = nL) (hrm : (rest.map fun v => v.category).sum ≤ 8) (hdg : decode cc pc = .ok (.invokestatic index, 3)) (hcs : cells ≤ R.cells ∧ slots ≤ R.slots) (hA : wn.map Prod.fst = wc.map Prod.fst)
    (kk : ∀ (H1 : Heap) (locs1 : List Loc), va_P D vwCl (pu isC wn W0) H1 → va_D A (pu isC wn W0) → va_S A H0 H1 locs1 → W p l e R s m args below meth c H1 locs1 cells slots Q (F0 m (pc + 3) ls rest)) : W p l e R s m args below meth c H locs cells slots Q (F0 m pc ls st0) := by
  refine va_callv (va_runS (As := As) (rest := rest) (g := F0 m pc ls st0) hF.1 hM cw ⟨pw.fb, fun U hU hW => ⟨rfl, pw_at hF hP hD isC hC hnd hU hW⟩⟩ rfl hn hsz hst (lv_room hrm) hdg hcs) hS (fun q _ h => ad_sub hD isC hC q h) (ad_sub hD isC hC) (fun u t H1 locs1 ht hvm hr hB hz hk hS => ?_)
  rw [ht] at hB
  exact kk H1 locs1 (pu_all hP hD isC hC hA hnd hB hk) (pu_ad isC wc wn W0 hC hA hnd hD) hS
theorem cl_RN (hF : FX p m c cc nL s args Ts own D cI cC) (hP : va_P D vwCl W0 H) (hD : va_D A W0) (hM : RdI l y ws rm D cI cC wc As r) (cw : va_CN R s args own index y host bytes maxL ret ws rm 0 0 n ∧ (Cond.static y).before args s = true ∧ True) (isC : List Nat) (hC : isC.map (fun i => W0[i]?) = wc.map some) (hnd : va_nd isC = true) (hn : As.length = n) (hst : st0 = As.reverse ++ rest) (hsz : ls.size = nL) (hrm : (rest.map fun v => v.category).sum ≤ 8) (hdg : decode cc pc = .ok (.invokestatic index, 3)) (hcs : cells ≤ R.cells ∧ slots ≤ R.slots)
    (kk : W p l e R s m args below meth c H locs cells slots Q (F0 m (pc + 3) ls (.int r :: rest))) : W p l e R s m args below meth c H locs cells slots Q (F0 m pc ls st0) := by
  refine cs_I (va_runSN (As := As) (rest := rest) (g := F0 m pc ls st0) hF.1 hM cw ⟨pw.fb, fun U hU hW => ⟨rfl, pw_at hF hP hD isC hC hnd hU hW⟩⟩ rfl hn hsz hst (lv_room hrm) hdg hcs) (fun r' hr => ?_)
  subst hr
  exact kk
theorem cl_WN (hF : FX p m c cc nL s args Ts own D cI cC) (hP : va_P D vwCl W0 H) (hD : va_D A W0) (hS : va_S A H0 H locs) (hM : WrI l y ws rm D cI cC wc wn As r) (cw : va_CN R s args own index y host bytes maxL ret ws rm 0 0 n ∧ (Cond.static y).before args s = true ∧ True) (isC : List Nat) (hC : isC.map (fun i => W0[i]?) = wc.map some) (hnd : va_nd isC = true) (hn : As.length = n) (hst : st0 = As.reverse ++ rest) (hsz : ls.size = nL) (hrm : (rest.map fun v => v.category).sum ≤ 8) (hdg : decode cc pc = .ok (.invokestatic index, 3)) (hcs : cells ≤ R.cells ∧ slots ≤ R.slots) (hA : wn.map Prod.fst = wc.map Prod.fst)
    (kk : ∀ (H1 : Heap) (locs1 : List Loc), va_P D vwCl (pu isC wn W0) H1 → va_D A (pu isC wn W0) → va_S A H0 H1 locs1 → W p l e R s m args below meth c H1 locs1 cells slots Q (F0 m (pc + 3) ls (.int r :: rest))) : W p l e R s m args below meth c H locs cells slots Q (F0 m pc ls st0) := by
  refine va_calli (va_runSN (As := As) (rest := rest) (g := F0 m pc ls st0) hF.1 hM cw ⟨pw.fb, fun U hU hW => ⟨rfl, pw_at hF hP hD isC hC hnd hU hW⟩⟩ rfl hn hsz hst (lv_room hrm) hdg hcs) hS (fun q _ h => ad_sub hD isC hC q h) (ad_sub hD isC hC) (fun r' u t H1 locs1 ht hvm hr hB hz hk hS => ?_)
  subst hr
  rw [ht] at hB
  exact kk H1 locs1 (pu_all hP hD isC hC hA hnd hB hk) (pu_ad isC wc wn W0 hC hA hnd hD) hS
theorem cl_VN (hF : FX p m c cc nL s args Ts own D cI cC) (hP : va_P D vwCl W0 H) (hD : va_D A W0) (hS : va_S A H0 H locs) (hM : WrV l y ws rm D cI cC wc wn As) (cw : va_CN R s args own index y host bytes maxL ret ws rm 0 0 n ∧ (Cond.static y).before args s = true ∧ True) (isC : List Nat) (hC : isC.map (fun i => W0[i]?) = wc.map some) (hnd : va_nd isC = true) (hn : As.length = n) (hst : st0 = As.reverse ++ rest) (hsz : ls.size = nL) (hrm : (rest.map fun v => v.category).sum ≤ 8) (hdg : decode cc pc = .ok (.invokestatic index, 3)) (hcs : cells ≤ R.cells ∧ slots ≤ R.slots) (hA : wn.map Prod.fst = wc.map Prod.fst)
    (kk : ∀ (H1 : Heap) (locs1 : List Loc), va_P D vwCl (pu isC wn W0) H1 → va_D A (pu isC wn W0) → va_S A H0 H1 locs1 → W p l e R s m args below meth c H1 locs1 cells slots Q (F0 m (pc + 3) ls rest)) : W p l e R s m args below meth c H locs cells slots Q (F0 m pc ls st0) := by
  refine va_callv (va_runSN (As := As) (rest := rest) (g := F0 m pc ls st0) hF.1 hM cw ⟨pw.fb, fun U hU hW => ⟨rfl, pw_at hF hP hD isC hC hnd hU hW⟩⟩ rfl hn hsz hst (lv_room hrm) hdg hcs) hS (fun q _ h => ad_sub hD isC hC q h) (ad_sub hD isC hC) (fun u t H1 locs1 ht hvm hr hB hz hk hS => ?_)
  rw [ht] at hB
  exact kk H1 locs1 (pu_all hP hD isC hC hA hnd hB hk) (pu_ad isC wc wn W0 hC hA hnd hD) hS
end CL
theorem ch_ok {v : Int32} (h : ¬ v < 0 ∧ v.toNatClampNeg < 65536) : narrow .char (.int v) = .int v ∧ fits .char (.int v) = true := by
  obtain ⟨j, hj, rfl⟩ := nI_of h.1
  have h2 := h.2
  rw [nI_clamp hj] at h2
  exact pk_charN h2
theorem zb_ok {v : Int32} (h : v = 0 ∨ v = 1) : narrow .boolean (.int v) = .int v := by
  rcases h with rfl | rfl <;> decide
section XL
variable {p : Program} {l : Launch} {e : Env} {R : Room} {s : State} {m : MethodId} {args : Array Value} {below : List Frame} {meth : Method} {c : Code} {H : Heap} {locs : List Loc} {cells slots : Nat} {Q : State → Prop}
variable {cc : ByteArray} {pc : Nat} {ls : Array Slot} {rest : List Value} {D : va_G} {cl : List vw_C} {A : Nat → Prop} {a : Nat} {tys : List (ClassId × FieldType)} {ws : va_W} {H0 : Heap}
theorem x_iast (hexec : p.tables.exec = Jvm.exec) (hb : c.code = cc) (hK : va_K D cl tys s) (hP : va_P D cl ws H) (hD : va_D A ws) (hS : va_S A H0 H locs) (q0 t0 : Nat) {cA : ClassId} {n : Nat} {f : Nat → Int32} (ha : ws[q0]? = some (a, .inl (cA, n, .inl f))) (ht : tys[t0]? = some (cA, .int)) {i : Int32} {x : Int32} (hin : vp_in i n) (hdg : decode cc pc = .ok (.iastore, 1))
    (kk : ∀ (z : Nat → Int32) (H1 : Heap) (locs1 : List Loc), z = upd f i.toNatClampNeg x → va_P D cl (ws.set q0 (a, .inl (cA, n, .inl z))) H1 → va_D A (ws.set q0 (a, .inl (cA, n, .inl z))) → va_S A H0 H1 locs1 → W p l e R s m args below meth c H1 locs1 cells slots Q (F0 m (pc + 1) ls rest)) : W p l e R s m args below meth c H locs cells slots Q (F0 m pc ls (.int x :: .int i :: .ref a :: rest)) :=
  va_iast hexec hb hK hP hD hS q0 t0 ha ht hin hdg (fun H1 locs1 h1 h2 h3 => kk _ H1 locs1 rfl h1 h2 h3)
theorem x_cast (hexec : p.tables.exec = Jvm.exec) (hb : c.code = cc) (hK : va_K D cl tys s) (hP : va_P D cl ws H) (hD : va_D A ws) (hS : va_S A H0 H locs) (q0 t0 : Nat) {cA : ClassId} {n : Nat} {f : Nat → Int32} (ha : ws[q0]? = some (a, .inl (cA, n, .inl f))) (ht : tys[t0]? = some (cA, .char)) {i : Int32} {x : Int32} (hin : vp_in i n) (hdg : decode cc pc = .ok (.castore, 1))
    (kk : ∀ (z : Nat → Int32) (H1 : Heap) (locs1 : List Loc), z = upd f i.toNatClampNeg (vp_nar .char x) → va_P D cl (ws.set q0 (a, .inl (cA, n, .inl z))) H1 → va_D A (ws.set q0 (a, .inl (cA, n, .inl z))) → va_S A H0 H1 locs1 → W p l e R s m args below meth c H1 locs1 cells slots Q (F0 m (pc + 1) ls rest)) : W p l e R s m args below meth c H locs cells slots Q (F0 m pc ls (.int x :: .int i :: .ref a :: rest)) :=
  va_cast hexec hb hK hP hD hS q0 t0 ha ht hin hdg (fun H1 locs1 h1 h2 h3 => kk _ H1 locs1 rfl h1 h2 h3)
theorem x_copy (hexec : p.tables.exec = Jvm.exec) (hb : c.code = cc) (hml : c.maxLocals = ls.size) {own : String} {index : Nat} (hown : s.vm.findClass own = some m.cls) (hlink : (Cond.methodLink own index arraycopyName).before args s = true) (hnat : (Cond.native arraycopyName).before args s = true) (hstat : (Cond.static arraycopyName).before args s = true) (hini : (Cond.initialized "java/lang/System").before args s = true)
    (hK : va_K D cl tys s) (hP : va_P D cl ws H) (hD : va_D A ws) (hS : va_S A H0 H locs) (q0 q1 t0 t1 : Nat) {a0 : Nat} {c0 c1 : ClassId} {n0 n1 : Nat} {f g : Nat → Int32} {ty : FieldType} (ha0 : ws[q0]? = some (a0, .inl (c0, n0, .inl f))) (ha1 : ws[q1]? = some (a, .inl (c1, n1, .inl g))) (ht0 : tys[t0]? = some (c0, ty)) (ht1 : tys[t1]? = some (c1, ty)) (hprim : refKind ty = false)
    {sp dp n : Int32} (h1 : ¬ sp < 0) (h2 : ¬ dp < 0) (h3 : ¬ n < 0) (h4 : sp.toNatClampNeg + n.toNatClampNeg ≤ n0) (h5 : dp.toNatClampNeg + n.toNatClampNeg ≤ n1) (hfit : ∀ i, i < n.toNatClampNeg → fits ty (.int (f (sp.toNatClampNeg + i))) = true)
    (hframes : 1 ≤ R.frames) (hlocals : (rest.map fun v => v.category).sum + (nativeFrameWords "java/lang/System" "arraycopy" 5 + 11) ≤ R.locals) (hdg : decode cc pc = .ok (.invokestatic index, 3))
    (kk : ∀ (z : Nat → Int32) (H1 : Heap) (locs1 : List Loc), z = va_cpy f g sp.toNatClampNeg dp.toNatClampNeg n.toNatClampNeg → va_P D cl (ws.set q1 (a, .inl (c1, n1, .inl z))) H1 → va_D A (ws.set q1 (a, .inl (c1, n1, .inl z))) → va_S A H0 H1 locs1 → W p l e R s m args below meth c H1 locs1 cells slots Q (F0 m (pc + 3) ls rest)) : W p l e R s m args below meth c H locs cells slots Q (F0 m pc ls (.int n :: .int dp :: .ref a :: .int sp :: .ref a0 :: rest)) :=
  va_copyi hexec hb hml hown hlink hnat hstat hini hK hP hD hS q0 q1 t0 t1 ha0 ha1 ht0 ht1 hprim h1 h2 h3 h4 h5 hfit hframes hlocals hdg (fun H1 locs1 h1 h2 h3 => kk _ H1 locs1 rfl h1 h2 h3)
end XL
end
