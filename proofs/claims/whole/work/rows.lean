section
-- ===== PART A: goes FIRST, ahead of the names: the tables' words, and 'selects' of the private methods out of them =====
/-- a private method of a class that the tables say can be made, by its rows of tables_1 -/
def lw_okq (q : MethodName × Nat) : Prop := (q.1.cls ≠ "java/lang/invoke/MethodHandle" ∧ q.1.cls ≠ "java/lang/invoke/VarHandle") ∧ Cond.instantiable q.1.cls q.2 ∈ tables_1 ∧ Cond.privateMethod q.1 ∈ tables_1 ∧ Cond.instanceMethod q.1 ∈ tables_1
theorem lw_p0 : lw_okq (⟨"ProvenLedger$Book", "find", "(I)I"⟩, 4) := ⟨⟨by decide +kernel, by decide +kernel⟩, List.mem_of_getElem? (i := 21) (by decide +kernel), List.mem_of_getElem? (i := 237) (by decide +kernel), List.mem_of_getElem? (i := 238) (by decide +kernel)⟩
theorem lw_p1 : lw_okq (⟨"ProvenLedger$Book", "remove", "(I)V"⟩, 4) := ⟨⟨by decide +kernel, by decide +kernel⟩, List.mem_of_getElem? (i := 21) (by decide +kernel), List.mem_of_getElem? (i := 261) (by decide +kernel), List.mem_of_getElem? (i := 262) (by decide +kernel)⟩
theorem lw_p2 : lw_okq (⟨"ProvenLedger$Book", "move", "(II)V"⟩, 4) := ⟨⟨by decide +kernel, by decide +kernel⟩, List.mem_of_getElem? (i := 21) (by decide +kernel), List.mem_of_getElem? (i := 265) (by decide +kernel), List.mem_of_getElem? (i := 266) (by decide +kernel)⟩
theorem lw_p3 : lw_okq (⟨"ProvenLedger$Book", "insert", "(I)I"⟩, 4) := ⟨⟨by decide +kernel, by decide +kernel⟩, List.mem_of_getElem? (i := 21) (by decide +kernel), List.mem_of_getElem? (i := 269) (by decide +kernel), List.mem_of_getElem? (i := 270) (by decide +kernel)⟩
theorem lw_p4 : lw_okq (⟨"ProvenLedger", "newcomers", "(IIJJ)I"⟩, 7) := ⟨⟨by decide +kernel, by decide +kernel⟩, List.mem_of_getElem? (i := 13) (by decide +kernel), List.mem_of_getElem? (i := 286) (by decide +kernel), List.mem_of_getElem? (i := 287) (by decide +kernel)⟩
theorem lw_p5 : lw_okq (⟨"ProvenLedger$Tree", "growNothing", "()LProvenLedger$Node;"⟩, 9) := ⟨⟨by decide +kernel, by decide +kernel⟩, List.mem_of_getElem? (i := 58) (by decide +kernel), List.mem_of_getElem? (i := 320) (by decide +kernel), List.mem_of_getElem? (i := 321) (by decide +kernel)⟩
theorem lw_p6 : lw_okq (⟨"ProvenLedger$Tree", "take", "(IIII)LProvenLedger$Node;"⟩, 9) := ⟨⟨by decide +kernel, by decide +kernel⟩, List.mem_of_getElem? (i := 58) (by decide +kernel), List.mem_of_getElem? (i := 324) (by decide +kernel), List.mem_of_getElem? (i := 325) (by decide +kernel)⟩
theorem lw_p7 : lw_okq (⟨"ProvenLedger$Code", "putHead", "(II)V"⟩, 2) := ⟨⟨by decide +kernel, by decide +kernel⟩, List.mem_of_getElem? (i := 64) (by decide +kernel), List.mem_of_getElem? (i := 344) (by decide +kernel), List.mem_of_getElem? (i := 345) (by decide +kernel)⟩
theorem lw_p8 : lw_okq (⟨"ProvenLedger$Tree", "finish", "(LProvenLedger$Node;I)LProvenLedger$Node;"⟩, 9) := ⟨⟨by decide +kernel, by decide +kernel⟩, List.mem_of_getElem? (i := 58) (by decide +kernel), List.mem_of_getElem? (i := 348) (by decide +kernel), List.mem_of_getElem? (i := 349) (by decide +kernel)⟩
theorem lw_p9 : lw_okq (⟨"ProvenLedger$Tree", "grow", "(III)LProvenLedger$Node;"⟩, 9) := ⟨⟨by decide +kernel, by decide +kernel⟩, List.mem_of_getElem? (i := 58) (by decide +kernel), List.mem_of_getElem? (i := 356) (by decide +kernel), List.mem_of_getElem? (i := 357) (by decide +kernel)⟩
theorem lw_p10 : lw_okq (⟨"ProvenLedger$Tree", "growLeaf", "(II)LProvenLedger$Node;"⟩, 9) := ⟨⟨by decide +kernel, by decide +kernel⟩, List.mem_of_getElem? (i := 58) (by decide +kernel), List.mem_of_getElem? (i := 364) (by decide +kernel), List.mem_of_getElem? (i := 365) (by decide +kernel)⟩
theorem lw_p11 : lw_okq (⟨"ProvenLedger$Tree", "growStem", "(IIII)LProvenLedger$Node;"⟩, 9) := ⟨⟨by decide +kernel, by decide +kernel⟩, List.mem_of_getElem? (i := 58) (by decide +kernel), List.mem_of_getElem? (i := 387) (by decide +kernel), List.mem_of_getElem? (i := 388) (by decide +kernel)⟩
theorem lw_p12 : lw_okq (⟨"ProvenLedger$Tree", "putReference", "(LProvenLedger$Node;)V"⟩, 9) := ⟨⟨by decide +kernel, by decide +kernel⟩, List.mem_of_getElem? (i := 58) (by decide +kernel), List.mem_of_getElem? (i := 391) (by decide +kernel), List.mem_of_getElem? (i := 392) (by decide +kernel)⟩
theorem lw_p13 : lw_okq (⟨"ProvenLedger$Hasher", "doRounds", "()V"⟩, 3) := ⟨⟨by decide +kernel, by decide +kernel⟩, List.mem_of_getElem? (i := 42) (by decide +kernel), List.mem_of_getElem? (i := 407) (by decide +kernel), List.mem_of_getElem? (i := 408) (by decide +kernel)⟩
theorem lw_p14 : lw_okq (⟨"ProvenLedger$Hasher", "mixColumns", "()V"⟩, 3) := ⟨⟨by decide +kernel, by decide +kernel⟩, List.mem_of_getElem? (i := 42) (by decide +kernel), List.mem_of_getElem? (i := 413) (by decide +kernel), List.mem_of_getElem? (i := 414) (by decide +kernel)⟩
theorem lw_p15 : lw_okq (⟨"ProvenLedger$Hasher", "turnWords", "()V"⟩, 3) := ⟨⟨by decide +kernel, by decide +kernel⟩, List.mem_of_getElem? (i := 42) (by decide +kernel), List.mem_of_getElem? (i := 417) (by decide +kernel), List.mem_of_getElem? (i := 418) (by decide +kernel)⟩
def lw_privs_1 : List (MethodName × Nat) := [(⟨"ProvenLedger$Book", "find", "(I)I"⟩, 4), (⟨"ProvenLedger$Book", "remove", "(I)V"⟩, 4), (⟨"ProvenLedger$Book", "move", "(II)V"⟩, 4), (⟨"ProvenLedger$Book", "insert", "(I)I"⟩, 4), (⟨"ProvenLedger", "newcomers", "(IIJJ)I"⟩, 7), (⟨"ProvenLedger$Tree", "growNothing", "()LProvenLedger$Node;"⟩, 9), (⟨"ProvenLedger$Tree", "take", "(IIII)LProvenLedger$Node;"⟩, 9), (⟨"ProvenLedger$Code", "putHead", "(II)V"⟩, 2), (⟨"ProvenLedger$Tree", "finish", "(LProvenLedger$Node;I)LProvenLedger$Node;"⟩, 9), (⟨"ProvenLedger$Tree", "grow", "(III)LProvenLedger$Node;"⟩, 9), (⟨"ProvenLedger$Tree", "growLeaf", "(II)LProvenLedger$Node;"⟩, 9), (⟨"ProvenLedger$Tree", "growStem", "(IIII)LProvenLedger$Node;"⟩, 9), (⟨"ProvenLedger$Tree", "putReference", "(LProvenLedger$Node;)V"⟩, 9), (⟨"ProvenLedger$Hasher", "doRounds", "()V"⟩, 3), (⟨"ProvenLedger$Hasher", "mixColumns", "()V"⟩, 3), (⟨"ProvenLedger$Hasher", "turnWords", "()V"⟩, 3)]
theorem lw_r1 : ∀ q ∈ lw_privs_1, lw_okq q := List.forall_mem_cons.mpr ⟨lw_p0, List.forall_mem_cons.mpr ⟨lw_p1, List.forall_mem_cons.mpr ⟨lw_p2, List.forall_mem_cons.mpr ⟨lw_p3, List.forall_mem_cons.mpr ⟨lw_p4, List.forall_mem_cons.mpr ⟨lw_p5, List.forall_mem_cons.mpr ⟨lw_p6, List.forall_mem_cons.mpr ⟨lw_p7, List.forall_mem_cons.mpr ⟨lw_p8, List.forall_mem_cons.mpr ⟨lw_p9, List.forall_mem_cons.mpr ⟨lw_p10, List.forall_mem_cons.mpr ⟨lw_p11, List.forall_mem_cons.mpr ⟨lw_p12, List.forall_mem_cons.mpr ⟨lw_p13, List.forall_mem_cons.mpr ⟨lw_p14, List.forall_mem_cons.mpr ⟨lw_p15, fun _ h => absurd h List.not_mem_nil⟩⟩⟩⟩⟩⟩⟩⟩⟩⟩⟩⟩⟩⟩⟩⟩
theorem lw_p16 : lw_okq (⟨"ProvenLedger$Hasher", "mixRows", "()V"⟩, 3) := ⟨⟨by decide +kernel, by decide +kernel⟩, List.mem_of_getElem? (i := 42) (by decide +kernel), List.mem_of_getElem? (i := 425) (by decide +kernel), List.mem_of_getElem? (i := 426) (by decide +kernel)⟩
theorem lw_p17 : lw_okq (⟨"ProvenLedger$Tree", "growFork", "(III)LProvenLedger$Node;"⟩, 9) := ⟨⟨by decide +kernel, by decide +kernel⟩, List.mem_of_getElem? (i := 58) (by decide +kernel), List.mem_of_getElem? (i := 438) (by decide +kernel), List.mem_of_getElem? (i := 439) (by decide +kernel)⟩
theorem lw_p18 : lw_okq (⟨"ProvenLedger$Node", "hasDigitsOf", "(I)Z"⟩, 7) := ⟨⟨by decide +kernel, by decide +kernel⟩, List.mem_of_getElem? (i := 78) (by decide +kernel), List.mem_of_getElem? (i := 486) (by decide +kernel), List.mem_of_getElem? (i := 487) (by decide +kernel)⟩
theorem lw_p19 : lw_okq (⟨"ProvenLedger$Way", "enterPart", "(I[III)Z"⟩, 11) := ⟨⟨by decide +kernel, by decide +kernel⟩, List.mem_of_getElem? (i := 154) (by decide +kernel), List.mem_of_getElem? (i := 552) (by decide +kernel), List.mem_of_getElem? (i := 553) (by decide +kernel)⟩
theorem lw_p20 : lw_okq (⟨"ProvenLedger$Way", "passNode", "()I"⟩, 11) := ⟨⟨by decide +kernel, by decide +kernel⟩, List.mem_of_getElem? (i := 154) (by decide +kernel), List.mem_of_getElem? (i := 564) (by decide +kernel), List.mem_of_getElem? (i := 565) (by decide +kernel)⟩
theorem lw_p21 : lw_okq (⟨"ProvenLedger$Way", "firstItem", "()I"⟩, 11) := ⟨⟨by decide +kernel, by decide +kernel⟩, List.mem_of_getElem? (i := 154) (by decide +kernel), List.mem_of_getElem? (i := 568) (by decide +kernel), List.mem_of_getElem? (i := 569) (by decide +kernel)⟩
theorem lw_p22 : lw_okq (⟨"ProvenLedger$Way", "byteAt", "(I)I"⟩, 11) := ⟨⟨by decide +kernel, by decide +kernel⟩, List.mem_of_getElem? (i := 154) (by decide +kernel), List.mem_of_getElem? (i := 572) (by decide +kernel), List.mem_of_getElem? (i := 573) (by decide +kernel)⟩
theorem lw_p23 : lw_okq (⟨"ProvenLedger$Way", "itemEnd", "(I)I"⟩, 11) := ⟨⟨by decide +kernel, by decide +kernel⟩, List.mem_of_getElem? (i := 154) (by decide +kernel), List.mem_of_getElem? (i := 579) (by decide +kernel), List.mem_of_getElem? (i := 580) (by decide +kernel)⟩
theorem lw_p24 : lw_okq (⟨"ProvenLedger$Way", "nodeEnd", "(I)I"⟩, 11) := ⟨⟨by decide +kernel, by decide +kernel⟩, List.mem_of_getElem? (i := 154) (by decide +kernel), List.mem_of_getElem? (i := 583) (by decide +kernel), List.mem_of_getElem? (i := 584) (by decide +kernel)⟩
theorem lw_p25 : lw_okq (⟨"ProvenLedger$Way", "passDigits", "(II)I"⟩, 11) := ⟨⟨by decide +kernel, by decide +kernel⟩, List.mem_of_getElem? (i := 154) (by decide +kernel), List.mem_of_getElem? (i := 587) (by decide +kernel), List.mem_of_getElem? (i := 588) (by decide +kernel)⟩
theorem lw_p26 : lw_okq (⟨"ProvenLedger$Way", "bytesBegin", "(I)I"⟩, 11) := ⟨⟨by decide +kernel, by decide +kernel⟩, List.mem_of_getElem? (i := 154) (by decide +kernel), List.mem_of_getElem? (i := 591) (by decide +kernel), List.mem_of_getElem? (i := 592) (by decide +kernel)⟩
theorem lw_p27 : lw_okq (⟨"ProvenLedger$Way", "haveDigits", "(III)Z"⟩, 11) := ⟨⟨by decide +kernel, by decide +kernel⟩, List.mem_of_getElem? (i := 154) (by decide +kernel), List.mem_of_getElem? (i := 595) (by decide +kernel), List.mem_of_getElem? (i := 596) (by decide +kernel)⟩
theorem lw_p28 : lw_okq (⟨"ProvenLedger$Way", "findValue", "(I)V"⟩, 11) := ⟨⟨by decide +kernel, by decide +kernel⟩, List.mem_of_getElem? (i := 154) (by decide +kernel), List.mem_of_getElem? (i := 600) (by decide +kernel), List.mem_of_getElem? (i := 601) (by decide +kernel)⟩
theorem lw_p29 : lw_okq (⟨"ProvenLedger$Way", "numberAt", "(II)J"⟩, 11) := ⟨⟨by decide +kernel, by decide +kernel⟩, List.mem_of_getElem? (i := 154) (by decide +kernel), List.mem_of_getElem? (i := 604) (by decide +kernel), List.mem_of_getElem? (i := 605) (by decide +kernel)⟩
theorem lw_p30 : lw_okq (⟨"ProvenLedger$Way", "passFork", "(I)I"⟩, 11) := ⟨⟨by decide +kernel, by decide +kernel⟩, List.mem_of_getElem? (i := 154) (by decide +kernel), List.mem_of_getElem? (i := 608) (by decide +kernel), List.mem_of_getElem? (i := 609) (by decide +kernel)⟩
theorem lw_p31 : lw_okq (⟨"ProvenLedger$Way", "goOn", "(I)I"⟩, 11) := ⟨⟨by decide +kernel, by decide +kernel⟩, List.mem_of_getElem? (i := 154) (by decide +kernel), List.mem_of_getElem? (i := 612) (by decide +kernel), List.mem_of_getElem? (i := 613) (by decide +kernel)⟩
def lw_privs_2 : List (MethodName × Nat) := [(⟨"ProvenLedger$Hasher", "mixRows", "()V"⟩, 3), (⟨"ProvenLedger$Tree", "growFork", "(III)LProvenLedger$Node;"⟩, 9), (⟨"ProvenLedger$Node", "hasDigitsOf", "(I)Z"⟩, 7), (⟨"ProvenLedger$Way", "enterPart", "(I[III)Z"⟩, 11), (⟨"ProvenLedger$Way", "passNode", "()I"⟩, 11), (⟨"ProvenLedger$Way", "firstItem", "()I"⟩, 11), (⟨"ProvenLedger$Way", "byteAt", "(I)I"⟩, 11), (⟨"ProvenLedger$Way", "itemEnd", "(I)I"⟩, 11), (⟨"ProvenLedger$Way", "nodeEnd", "(I)I"⟩, 11), (⟨"ProvenLedger$Way", "passDigits", "(II)I"⟩, 11), (⟨"ProvenLedger$Way", "bytesBegin", "(I)I"⟩, 11), (⟨"ProvenLedger$Way", "haveDigits", "(III)Z"⟩, 11), (⟨"ProvenLedger$Way", "findValue", "(I)V"⟩, 11), (⟨"ProvenLedger$Way", "numberAt", "(II)J"⟩, 11), (⟨"ProvenLedger$Way", "passFork", "(I)I"⟩, 11), (⟨"ProvenLedger$Way", "goOn", "(I)I"⟩, 11)]
theorem lw_r2 : ∀ q ∈ lw_privs_2, lw_okq q := List.forall_mem_cons.mpr ⟨lw_p16, List.forall_mem_cons.mpr ⟨lw_p17, List.forall_mem_cons.mpr ⟨lw_p18, List.forall_mem_cons.mpr ⟨lw_p19, List.forall_mem_cons.mpr ⟨lw_p20, List.forall_mem_cons.mpr ⟨lw_p21, List.forall_mem_cons.mpr ⟨lw_p22, List.forall_mem_cons.mpr ⟨lw_p23, List.forall_mem_cons.mpr ⟨lw_p24, List.forall_mem_cons.mpr ⟨lw_p25, List.forall_mem_cons.mpr ⟨lw_p26, List.forall_mem_cons.mpr ⟨lw_p27, List.forall_mem_cons.mpr ⟨lw_p28, List.forall_mem_cons.mpr ⟨lw_p29, List.forall_mem_cons.mpr ⟨lw_p30, List.forall_mem_cons.mpr ⟨lw_p31, fun _ h => absurd h List.not_mem_nil⟩⟩⟩⟩⟩⟩⟩⟩⟩⟩⟩⟩⟩⟩⟩⟩
theorem lw_p32 : lw_okq (⟨"ProvenLedgerModel", "find", "(I)I"⟩, 34) := ⟨⟨by decide +kernel, by decide +kernel⟩, List.mem_of_getElem? (i := 629) (by decide +kernel), List.mem_of_getElem? (i := 752) (by decide +kernel), List.mem_of_getElem? (i := 753) (by decide +kernel)⟩
theorem lw_p33 : lw_okq (⟨"ProvenLedgerModel", "open", "(I)I"⟩, 34) := ⟨⟨by decide +kernel, by decide +kernel⟩, List.mem_of_getElem? (i := 629) (by decide +kernel), List.mem_of_getElem? (i := 756) (by decide +kernel), List.mem_of_getElem? (i := 757) (by decide +kernel)⟩
theorem lw_p34 : lw_okq (⟨"ProvenLedgerModel", "work", "()V"⟩, 34) := ⟨⟨by decide +kernel, by decide +kernel⟩, List.mem_of_getElem? (i := 629) (by decide +kernel), List.mem_of_getElem? (i := 789) (by decide +kernel), List.mem_of_getElem? (i := 790) (by decide +kernel)⟩
theorem lw_p35 : lw_okq (⟨"ProvenLedgerModel", "build", "(II)V"⟩, 34) := ⟨⟨by decide +kernel, by decide +kernel⟩, List.mem_of_getElem? (i := 629) (by decide +kernel), List.mem_of_getElem? (i := 793) (by decide +kernel), List.mem_of_getElem? (i := 794) (by decide +kernel)⟩
theorem lw_p36 : lw_okq (⟨"ProvenLedgerModel", "common", "(II)I"⟩, 34) := ⟨⟨by decide +kernel, by decide +kernel⟩, List.mem_of_getElem? (i := 629) (by decide +kernel), List.mem_of_getElem? (i := 797) (by decide +kernel), List.mem_of_getElem? (i := 798) (by decide +kernel)⟩
theorem lw_p37 : lw_okq (⟨"ProvenLedgerModel", "group", "(II)I"⟩, 34) := ⟨⟨by decide +kernel, by decide +kernel⟩, List.mem_of_getElem? (i := 629) (by decide +kernel), List.mem_of_getElem? (i := 801) (by decide +kernel), List.mem_of_getElem? (i := 802) (by decide +kernel)⟩
theorem lw_p38 : lw_okq (⟨"ProvenLedgerModel", "putDigits", "(IIIZ)V"⟩, 34) := ⟨⟨by decide +kernel, by decide +kernel⟩, List.mem_of_getElem? (i := 629) (by decide +kernel), List.mem_of_getElem? (i := 808) (by decide +kernel), List.mem_of_getElem? (i := 809) (by decide +kernel)⟩
theorem lw_p39 : lw_okq (⟨"ProvenLedgerModel", "putRow", "([II)V"⟩, 34) := ⟨⟨by decide +kernel, by decide +kernel⟩, List.mem_of_getElem? (i := 629) (by decide +kernel), List.mem_of_getElem? (i := 815) (by decide +kernel), List.mem_of_getElem? (i := 816) (by decide +kernel)⟩
theorem lw_p40 : lw_okq (⟨"ProvenLedgerModel", "put", "(I)V"⟩, 34) := ⟨⟨by decide +kernel, by decide +kernel⟩, List.mem_of_getElem? (i := 629) (by decide +kernel), List.mem_of_getElem? (i := 819) (by decide +kernel), List.mem_of_getElem? (i := 820) (by decide +kernel)⟩
theorem lw_p41 : lw_okq (⟨"ProvenLedgerModel", "putNumber", "(IJ)I"⟩, 34) := ⟨⟨by decide +kernel, by decide +kernel⟩, List.mem_of_getElem? (i := 629) (by decide +kernel), List.mem_of_getElem? (i := 823) (by decide +kernel), List.mem_of_getElem? (i := 824) (by decide +kernel)⟩
theorem lw_p42 : lw_okq (⟨"ProvenLedgerModel", "putReference", "(II)V"⟩, 34) := ⟨⟨by decide +kernel, by decide +kernel⟩, List.mem_of_getElem? (i := 629) (by decide +kernel), List.mem_of_getElem? (i := 833) (by decide +kernel), List.mem_of_getElem? (i := 834) (by decide +kernel)⟩
theorem lw_p43 : lw_okq (⟨"ProvenLedgerModel", "first", "(II)I"⟩, 34) := ⟨⟨by decide +kernel, by decide +kernel⟩, List.mem_of_getElem? (i := 629) (by decide +kernel), List.mem_of_getElem? (i := 837) (by decide +kernel), List.mem_of_getElem? (i := 838) (by decide +kernel)⟩
theorem lw_p44 : lw_okq (⟨"ProvenLedgerModel", "finish", "()V"⟩, 34) := ⟨⟨by decide +kernel, by decide +kernel⟩, List.mem_of_getElem? (i := 629) (by decide +kernel), List.mem_of_getElem? (i := 841) (by decide +kernel), List.mem_of_getElem? (i := 842) (by decide +kernel)⟩
theorem lw_p45 : lw_okq (⟨"ProvenLedgerModel", "note", "(II)V"⟩, 34) := ⟨⟨by decide +kernel, by decide +kernel⟩, List.mem_of_getElem? (i := 629) (by decide +kernel), List.mem_of_getElem? (i := 845) (by decide +kernel), List.mem_of_getElem? (i := 846) (by decide +kernel)⟩
theorem lw_p46 : lw_okq (⟨"ProvenLedgerModel", "hashCodeNow", "()V"⟩, 34) := ⟨⟨by decide +kernel, by decide +kernel⟩, List.mem_of_getElem? (i := 629) (by decide +kernel), List.mem_of_getElem? (i := 849) (by decide +kernel), List.mem_of_getElem? (i := 850) (by decide +kernel)⟩
theorem lw_p47 : lw_okq (⟨"ProvenLedgerModel", "round", "(I)V"⟩, 34) := ⟨⟨by decide +kernel, by decide +kernel⟩, List.mem_of_getElem? (i := 629) (by decide +kernel), List.mem_of_getElem? (i := 853) (by decide +kernel), List.mem_of_getElem? (i := 854) (by decide +kernel)⟩
def lw_privs_3 : List (MethodName × Nat) := [(⟨"ProvenLedgerModel", "find", "(I)I"⟩, 34), (⟨"ProvenLedgerModel", "open", "(I)I"⟩, 34), (⟨"ProvenLedgerModel", "work", "()V"⟩, 34), (⟨"ProvenLedgerModel", "build", "(II)V"⟩, 34), (⟨"ProvenLedgerModel", "common", "(II)I"⟩, 34), (⟨"ProvenLedgerModel", "group", "(II)I"⟩, 34), (⟨"ProvenLedgerModel", "putDigits", "(IIIZ)V"⟩, 34), (⟨"ProvenLedgerModel", "putRow", "([II)V"⟩, 34), (⟨"ProvenLedgerModel", "put", "(I)V"⟩, 34), (⟨"ProvenLedgerModel", "putNumber", "(IJ)I"⟩, 34), (⟨"ProvenLedgerModel", "putReference", "(II)V"⟩, 34), (⟨"ProvenLedgerModel", "first", "(II)I"⟩, 34), (⟨"ProvenLedgerModel", "finish", "()V"⟩, 34), (⟨"ProvenLedgerModel", "note", "(II)V"⟩, 34), (⟨"ProvenLedgerModel", "hashCodeNow", "()V"⟩, 34), (⟨"ProvenLedgerModel", "round", "(I)V"⟩, 34)]
theorem lw_r3 : ∀ q ∈ lw_privs_3, lw_okq q := List.forall_mem_cons.mpr ⟨lw_p32, List.forall_mem_cons.mpr ⟨lw_p33, List.forall_mem_cons.mpr ⟨lw_p34, List.forall_mem_cons.mpr ⟨lw_p35, List.forall_mem_cons.mpr ⟨lw_p36, List.forall_mem_cons.mpr ⟨lw_p37, List.forall_mem_cons.mpr ⟨lw_p38, List.forall_mem_cons.mpr ⟨lw_p39, List.forall_mem_cons.mpr ⟨lw_p40, List.forall_mem_cons.mpr ⟨lw_p41, List.forall_mem_cons.mpr ⟨lw_p42, List.forall_mem_cons.mpr ⟨lw_p43, List.forall_mem_cons.mpr ⟨lw_p44, List.forall_mem_cons.mpr ⟨lw_p45, List.forall_mem_cons.mpr ⟨lw_p46, List.forall_mem_cons.mpr ⟨lw_p47, fun _ h => absurd h List.not_mem_nil⟩⟩⟩⟩⟩⟩⟩⟩⟩⟩⟩⟩⟩⟩⟩⟩
theorem lw_p48 : lw_okq (⟨"ProvenLedgerModel", "top", "()V"⟩, 34) := ⟨⟨by decide +kernel, by decide +kernel⟩, List.mem_of_getElem? (i := 629) (by decide +kernel), List.mem_of_getElem? (i := 861) (by decide +kernel), List.mem_of_getElem? (i := 862) (by decide +kernel)⟩
theorem lw_p49 : lw_okq (⟨"ProvenLedgerModel", "markBelow", "(II)V"⟩, 34) := ⟨⟨by decide +kernel, by decide +kernel⟩, List.mem_of_getElem? (i := 629) (by decide +kernel), List.mem_of_getElem? (i := 869) (by decide +kernel), List.mem_of_getElem? (i := 870) (by decide +kernel)⟩
theorem lw_p50 : lw_okq (⟨"ProvenLedgerModel", "keepPart", "()V"⟩, 34) := ⟨⟨by decide +kernel, by decide +kernel⟩, List.mem_of_getElem? (i := 629) (by decide +kernel), List.mem_of_getElem? (i := 881) (by decide +kernel), List.mem_of_getElem? (i := 882) (by decide +kernel)⟩
theorem lw_p51 : lw_okq (⟨"ProvenLedgerModel", "isByte", "(II)Z"⟩, 34) := ⟨⟨by decide +kernel, by decide +kernel⟩, List.mem_of_getElem? (i := 629) (by decide +kernel), List.mem_of_getElem? (i := 897) (by decide +kernel), List.mem_of_getElem? (i := 898) (by decide +kernel)⟩
theorem lw_p52 : lw_okq (⟨"ProvenLedgerModel", "hashPart", "(I)V"⟩, 34) := ⟨⟨by decide +kernel, by decide +kernel⟩, List.mem_of_getElem? (i := 629) (by decide +kernel), List.mem_of_getElem? (i := 913) (by decide +kernel), List.mem_of_getElem? (i := 914) (by decide +kernel)⟩
theorem lw_p53 : lw_okq (⟨"ProvenLedgerModel", "passNode", "(I)V"⟩, 34) := ⟨⟨by decide +kernel, by decide +kernel⟩, List.mem_of_getElem? (i := 629) (by decide +kernel), List.mem_of_getElem? (i := 917) (by decide +kernel), List.mem_of_getElem? (i := 918) (by decide +kernel)⟩
theorem lw_p54 : lw_okq (⟨"ProvenLedgerModel", "nodeItems", "(II)I"⟩, 34) := ⟨⟨by decide +kernel, by decide +kernel⟩, List.mem_of_getElem? (i := 629) (by decide +kernel), List.mem_of_getElem? (i := 921) (by decide +kernel), List.mem_of_getElem? (i := 922) (by decide +kernel)⟩
theorem lw_p55 : lw_okq (⟨"ProvenLedgerModel", "byteOf", "(II)I"⟩, 34) := ⟨⟨by decide +kernel, by decide +kernel⟩, List.mem_of_getElem? (i := 629) (by decide +kernel), List.mem_of_getElem? (i := 925) (by decide +kernel), List.mem_of_getElem? (i := 926) (by decide +kernel)⟩
theorem lw_p56 : lw_okq (⟨"ProvenLedgerModel", "itemEnd", "(II)I"⟩, 34) := ⟨⟨by decide +kernel, by decide +kernel⟩, List.mem_of_getElem? (i := 629) (by decide +kernel), List.mem_of_getElem? (i := 929) (by decide +kernel), List.mem_of_getElem? (i := 930) (by decide +kernel)⟩
theorem lw_p57 : lw_okq (⟨"ProvenLedgerModel", "nodeBytes", "(II)I"⟩, 34) := ⟨⟨by decide +kernel, by decide +kernel⟩, List.mem_of_getElem? (i := 629) (by decide +kernel), List.mem_of_getElem? (i := 933) (by decide +kernel), List.mem_of_getElem? (i := 934) (by decide +kernel)⟩
theorem lw_p58 : lw_okq (⟨"ProvenLedgerModel", "digitsOf", "(IIII)I"⟩, 34) := ⟨⟨by decide +kernel, by decide +kernel⟩, List.mem_of_getElem? (i := 629) (by decide +kernel), List.mem_of_getElem? (i := 937) (by decide +kernel), List.mem_of_getElem? (i := 938) (by decide +kernel)⟩
theorem lw_p59 : lw_okq (⟨"ProvenLedgerModel", "itemBytes", "(II)I"⟩, 34) := ⟨⟨by decide +kernel, by decide +kernel⟩, List.mem_of_getElem? (i := 629) (by decide +kernel), List.mem_of_getElem? (i := 941) (by decide +kernel), List.mem_of_getElem? (i := 942) (by decide +kernel)⟩
theorem lw_p60 : lw_okq (⟨"ProvenLedgerModel", "half", "(III)I"⟩, 34) := ⟨⟨by decide +kernel, by decide +kernel⟩, List.mem_of_getElem? (i := 629) (by decide +kernel), List.mem_of_getElem? (i := 945) (by decide +kernel), List.mem_of_getElem? (i := 946) (by decide +kernel)⟩
theorem lw_p61 : lw_okq (⟨"ProvenLedgerModel", "goOn", "(I)V"⟩, 34) := ⟨⟨by decide +kernel, by decide +kernel⟩, List.mem_of_getElem? (i := 629) (by decide +kernel), List.mem_of_getElem? (i := 949) (by decide +kernel), List.mem_of_getElem? (i := 950) (by decide +kernel)⟩
theorem lw_p62 : lw_okq (⟨"ProvenLedgerModel", "itemNumber", "(II)J"⟩, 34) := ⟨⟨by decide +kernel, by decide +kernel⟩, List.mem_of_getElem? (i := 629) (by decide +kernel), List.mem_of_getElem? (i := 953) (by decide +kernel), List.mem_of_getElem? (i := 954) (by decide +kernel)⟩
def lw_privs_4 : List (MethodName × Nat) := [(⟨"ProvenLedgerModel", "top", "()V"⟩, 34), (⟨"ProvenLedgerModel", "markBelow", "(II)V"⟩, 34), (⟨"ProvenLedgerModel", "keepPart", "()V"⟩, 34), (⟨"ProvenLedgerModel", "isByte", "(II)Z"⟩, 34), (⟨"ProvenLedgerModel", "hashPart", "(I)V"⟩, 34), (⟨"ProvenLedgerModel", "passNode", "(I)V"⟩, 34), (⟨"ProvenLedgerModel", "nodeItems", "(II)I"⟩, 34), (⟨"ProvenLedgerModel", "byteOf", "(II)I"⟩, 34), (⟨"ProvenLedgerModel", "itemEnd", "(II)I"⟩, 34), (⟨"ProvenLedgerModel", "nodeBytes", "(II)I"⟩, 34), (⟨"ProvenLedgerModel", "digitsOf", "(IIII)I"⟩, 34), (⟨"ProvenLedgerModel", "itemBytes", "(II)I"⟩, 34), (⟨"ProvenLedgerModel", "half", "(III)I"⟩, 34), (⟨"ProvenLedgerModel", "goOn", "(I)V"⟩, 34), (⟨"ProvenLedgerModel", "itemNumber", "(II)J"⟩, 34)]
theorem lw_r4 : ∀ q ∈ lw_privs_4, lw_okq q := List.forall_mem_cons.mpr ⟨lw_p48, List.forall_mem_cons.mpr ⟨lw_p49, List.forall_mem_cons.mpr ⟨lw_p50, List.forall_mem_cons.mpr ⟨lw_p51, List.forall_mem_cons.mpr ⟨lw_p52, List.forall_mem_cons.mpr ⟨lw_p53, List.forall_mem_cons.mpr ⟨lw_p54, List.forall_mem_cons.mpr ⟨lw_p55, List.forall_mem_cons.mpr ⟨lw_p56, List.forall_mem_cons.mpr ⟨lw_p57, List.forall_mem_cons.mpr ⟨lw_p58, List.forall_mem_cons.mpr ⟨lw_p59, List.forall_mem_cons.mpr ⟨lw_p60, List.forall_mem_cons.mpr ⟨lw_p61, List.forall_mem_cons.mpr ⟨lw_p62, fun _ h => absurd h List.not_mem_nil⟩⟩⟩⟩⟩⟩⟩⟩⟩⟩⟩⟩⟩⟩⟩
def lw_privs : List (MethodName × Nat) := lw_privs_1 ++ (lw_privs_2 ++ (lw_privs_3 ++ (lw_privs_4)))
def lw_tbl : List Cond := k2_sels lw_privs ++ tables_1
theorem lw_privs_ok : ∀ q ∈ lw_privs, lw_okq q := by
  show ∀ q ∈ lw_privs_1 ++ (lw_privs_2 ++ (lw_privs_3 ++ (lw_privs_4))), lw_okq q
  exact List.forall_mem_append.mpr ⟨lw_r1, List.forall_mem_append.mpr ⟨lw_r2, List.forall_mem_append.mpr ⟨lw_r3, lw_r4⟩⟩⟩
end
section
def rn_B : String := "ProvenLedger$Book"
def rt_B : u_T := fun k => match k with
  | 0 => ("ProvenLedger$Book", "numbers", "[I", true)
  | 1 => ("ProvenLedger$Book", "nonces", "[I", true)
  | 2 => ("ProvenLedger$Book", "balances", "[J", true)
  | _ => ("ProvenLedger$Book", "count", "I", false)
def rty_B : Nat → FieldType := fun k => match k with
  | 0 => .array .int
  | 1 => .array .int
  | 2 => .array .long
  | _ => .int
theorem rnm_B : ∀ a, a < 4 → ∀ b, b < 4 → a ≠ b → (rt_B a).2.1 ≠ (rt_B b).2.1 := by decide +kernel
theorem rty_B_ok : ∀ k, k < 4 → parseFieldDescriptor (rt_B k).2.2.1 = some (rty_B k) := by decide +kernel
def rn_C : String := "ProvenLedger$Code"
def rt_C : u_T := fun k => match k with
  | 0 => ("ProvenLedger$Code", "bytes", "[I", true)
  | _ => ("ProvenLedger$Code", "used", "I", false)
def rty_C : Nat → FieldType := fun k => match k with
  | 0 => .array .int
  | _ => .int
theorem rnm_C : ∀ a, a < 2 → ∀ b, b < 2 → a ≠ b → (rt_C a).2.1 ≠ (rt_C b).2.1 := by decide +kernel
theorem rty_C_ok : ∀ k, k < 2 → parseFieldDescriptor (rt_C k).2.2.1 = some (rty_C k) := by decide +kernel
def rn_H : String := "ProvenLedger$Hasher"
def rt_H : u_T := fun k => match k with
  | 0 => ("ProvenLedger$Hasher", "words", "[J", true)
  | 1 => ("ProvenLedger$Hasher", "turned", "[J", true)
  | _ => ("ProvenLedger$Hasher", "columns", "[J", true)
def rty_H : Nat → FieldType := fun k => match k with
  | 0 => .array .long
  | 1 => .array .long
  | _ => .array .long
theorem rnm_H : ∀ a, a < 3 → ∀ b, b < 3 → a ≠ b → (rt_H a).2.1 ≠ (rt_H b).2.1 := by decide +kernel
theorem rty_H_ok : ∀ k, k < 3 → parseFieldDescriptor (rt_H k).2.2.1 = some (rty_H k) := by decide +kernel
def rn_N : String := "ProvenLedger$Node"
def rt_N : u_T := fun k => match k with
  | 0 => ("ProvenLedger$Node", "below", "[LProvenLedger$Node;", true)
  | 1 => ("ProvenLedger$Node", "kind", "I", false)
  | 2 => ("ProvenLedger$Node", "account", "I", false)
  | 3 => ("ProvenLedger$Node", "depth", "I", false)
  | 4 => ("ProvenLedger$Node", "end", "I", false)
  | 5 => ("ProvenLedger$Node", "begin", "I", false)
  | _ => ("ProvenLedger$Node", "length", "I", false)
def rty_N : Nat → FieldType := fun k => match k with
  | 0 => .array (.object "ProvenLedger$Node")
  | 1 => .int
  | 2 => .int
  | 3 => .int
  | 4 => .int
  | 5 => .int
  | _ => .int
theorem rnm_N : ∀ a, a < 7 → ∀ b, b < 7 → a ≠ b → (rt_N a).2.1 ≠ (rt_N b).2.1 := by decide +kernel
theorem rty_N_ok : ∀ k, k < 7 → parseFieldDescriptor (rt_N k).2.2.1 = some (rty_N k) := by decide +kernel
def rn_P : String := "ProvenLedger$Proof"
def rt_P : u_T := fun k => match k with
  | 0 => ("ProvenLedger$Proof", "rows", "[[I", true)
  | 1 => ("ProvenLedger$Proof", "lengths", "[I", true)
  | _ => ("ProvenLedger$Proof", "count", "I", false)
def rty_P : Nat → FieldType := fun k => match k with
  | 0 => .array (.array .int)
  | 1 => .array .int
  | _ => .int
theorem rnm_P : ∀ a, a < 3 → ∀ b, b < 3 → a ≠ b → (rt_P a).2.1 ≠ (rt_P b).2.1 := by decide +kernel
theorem rty_P_ok : ∀ k, k < 3 → parseFieldDescriptor (rt_P k).2.2.1 = some (rty_P k) := by decide +kernel
def rn_T : String := "ProvenLedger$Tree"
def rt_T : u_T := fun k => match k with
  | 0 => ("ProvenLedger$Tree", "book", "LProvenLedger$Book;", true)
  | 1 => ("ProvenLedger$Tree", "hasher", "LProvenLedger$Hasher;", true)
  | 2 => ("ProvenLedger$Tree", "code", "LProvenLedger$Code;", true)
  | 3 => ("ProvenLedger$Tree", "pool", "[LProvenLedger$Node;", true)
  | 4 => ("ProvenLedger$Tree", "counts", "[I", true)
  | 5 => ("ProvenLedger$Tree", "root", "[I", true)
  | 6 => ("ProvenLedger$Tree", "taken", "I", false)
  | 7 => ("ProvenLedger$Tree", "top", "LProvenLedger$Node;", false)
  | _ => ("ProvenLedger$Tree", "old", "Z", false)
def rty_T : Nat → FieldType := fun k => match k with
  | 0 => .object "ProvenLedger$Book"
  | 1 => .object "ProvenLedger$Hasher"
  | 2 => .object "ProvenLedger$Code"
  | 3 => .array (.object "ProvenLedger$Node")
  | 4 => .array .int
  | 5 => .array .int
  | 6 => .int
  | 7 => .object "ProvenLedger$Node"
  | _ => .boolean
theorem rnm_T : ∀ a, a < 9 → ∀ b, b < 9 → a ≠ b → (rt_T a).2.1 ≠ (rt_T b).2.1 := by decide +kernel
theorem rty_T_ok : ∀ k, k < 9 → parseFieldDescriptor (rt_T k).2.2.1 = some (rty_T k) := by decide +kernel
def rn_W : String := "ProvenLedger$Way"
def rt_W : u_T := fun k => match k with
  | 0 => ("ProvenLedger$Way", "proof", "LProvenLedger$Proof;", true)
  | 1 => ("ProvenLedger$Way", "hasher", "LProvenLedger$Hasher;", true)
  | 2 => ("ProvenLedger$Way", "account", "I", false)
  | 3 => ("ProvenLedger$Way", "part", "I", false)
  | 4 => ("ProvenLedger$Way", "row", "[I", false)
  | 5 => ("ProvenLedger$Way", "rowLength", "I", false)
  | 6 => ("ProvenLedger$Way", "place", "I", false)
  | 7 => ("ProvenLedger$Way", "depth", "I", false)
  | 8 => ("ProvenLedger$Way", "found", "Z", false)
  | 9 => ("ProvenLedger$Way", "nonce", "J", false)
  | _ => ("ProvenLedger$Way", "balance", "J", false)
def rty_W : Nat → FieldType := fun k => match k with
  | 0 => .object "ProvenLedger$Proof"
  | 1 => .object "ProvenLedger$Hasher"
  | 2 => .int
  | 3 => .int
  | 4 => .array .int
  | 5 => .int
  | 6 => .int
  | 7 => .int
  | 8 => .boolean
  | 9 => .long
  | _ => .long
theorem rnm_W : ∀ a, a < 11 → ∀ b, b < 11 → a ≠ b → (rt_W a).2.1 ≠ (rt_W b).2.1 := by decide +kernel
theorem rty_W_ok : ∀ k, k < 11 → parseFieldDescriptor (rt_W k).2.2.1 = some (rty_W k) := by decide +kernel
def rn_L : String := "ProvenLedger"
def rt_L : u_T := fun k => match k with
  | 0 => ("ProvenLedger", "book", "LProvenLedger$Book;", true)
  | 1 => ("ProvenLedger", "hasher", "LProvenLedger$Hasher;", true)
  | 2 => ("ProvenLedger", "tree", "LProvenLedger$Tree;", true)
  | 3 => ("ProvenLedger", "proof", "LProvenLedger$Proof;", true)
  | 4 => ("ProvenLedger", "way", "LProvenLedger$Way;", true)
  | 5 => ("ProvenLedger", "feeAccount", "I", false)
  | _ => ("ProvenLedger", "latestCheck", "I", false)
def rty_L : Nat → FieldType := fun k => match k with
  | 0 => .object "ProvenLedger$Book"
  | 1 => .object "ProvenLedger$Hasher"
  | 2 => .object "ProvenLedger$Tree"
  | 3 => .object "ProvenLedger$Proof"
  | 4 => .object "ProvenLedger$Way"
  | 5 => .int
  | _ => .int
theorem rnm_L : ∀ a, a < 7 → ∀ b, b < 7 → a ≠ b → (rt_L a).2.1 ≠ (rt_L b).2.1 := by decide +kernel
theorem rty_L_ok : ∀ k, k < 7 → parseFieldDescriptor (rt_L k).2.2.1 = some (rty_L k) := by decide +kernel
def rn_M : String := "ProvenLedgerModel"
def rt_M : u_T := fun k => match k with
  | 0 => ("ProvenLedgerModel", "many", "I", false)
  | 1 => ("ProvenLedgerModel", "number", "[I", false)
  | 2 => ("ProvenLedgerModel", "nonces", "[I", false)
  | 3 => ("ProvenLedgerModel", "balances", "[J", false)
  | 4 => ("ProvenLedgerModel", "fees", "I", false)
  | 5 => ("ProvenLedgerModel", "worked", "Z", false)
  | 6 => ("ProvenLedgerModel", "refer", "[I", false)
  | 7 => ("ProvenLedgerModel", "referLength", "[I", false)
  | 8 => ("ProvenLedgerModel", "byHash", "[Z", false)
  | 9 => ("ProvenLedgerModel", "used", "[Z", false)
  | 10 => ("ProvenLedgerModel", "bodyLength", "I", false)
  | 11 => ("ProvenLedgerModel", "body", "[I", false)
  | 12 => ("ProvenLedgerModel", "codeLength", "I", false)
  | 13 => ("ProvenLedgerModel", "code", "[I", false)
  | 14 => ("ProvenLedgerModel", "packed", "[I", false)
  | 15 => ("ProvenLedgerModel", "value", "[I", false)
  | 16 => ("ProvenLedgerModel", "parts", "I", false)
  | 17 => ("ProvenLedgerModel", "partLength", "[I", false)
  | 18 => ("ProvenLedgerModel", "part", "[I", false)
  | 19 => ("ProvenLedgerModel", "provenNonce", "J", false)
  | 20 => ("ProvenLedgerModel", "provenBalance", "J", false)
  | 21 => ("ProvenLedgerModel", "word", "[J", false)
  | 22 => ("ProvenLedgerModel", "moved", "[J", false)
  | 23 => ("ProvenLedgerModel", "column", "[J", false)
  | 24 => ("ProvenLedgerModel", "distance", "[I", false)
  | 25 => ("ProvenLedgerModel", "constant", "[J", false)
  | 26 => ("ProvenLedgerModel", "padded", "[I", false)
  | 27 => ("ProvenLedgerModel", "hash", "[I", false)
  | 28 => ("ProvenLedgerModel", "root", "[I", false)
  | 29 => ("ProvenLedgerModel", "wayPart", "I", false)
  | 30 => ("ProvenLedgerModel", "wayPlace", "I", false)
  | 31 => ("ProvenLedgerModel", "wayDepth", "I", false)
  | 32 => ("ProvenLedgerModel", "wrong", "Z", false)
  | _ => ("ProvenLedgerModel", "told", "I", false)
def rty_M : Nat → FieldType := fun k => match k with
  | 0 => .int
  | 1 => .array .int
  | 2 => .array .int
  | 3 => .array .long
  | 4 => .int
  | 5 => .boolean
  | 6 => .array .int
  | 7 => .array .int
  | 8 => .array .boolean
  | 9 => .array .boolean
  | 10 => .int
  | 11 => .array .int
  | 12 => .int
  | 13 => .array .int
  | 14 => .array .int
  | 15 => .array .int
  | 16 => .int
  | 17 => .array .int
  | 18 => .array .int
  | 19 => .long
  | 20 => .long
  | 21 => .array .long
  | 22 => .array .long
  | 23 => .array .long
  | 24 => .array .int
  | 25 => .array .long
  | 26 => .array .int
  | 27 => .array .int
  | 28 => .array .int
  | 29 => .int
  | 30 => .int
  | 31 => .int
  | 32 => .boolean
  | _ => .int
theorem rnm_M : ∀ a, a < 34 → ∀ b, b < 34 → a ≠ b → (rt_M a).2.1 ≠ (rt_M b).2.1 := by decide +kernel
theorem rty_M_ok : ∀ k, k < 34 → parseFieldDescriptor (rt_M k).2.2.1 = some (rty_M k) := by decide +kernel
def rn_Law : String := "ProvenLedgerLaw"
abbrev vwCl : List vw_C := [(rn_B, rt_B, 4), (rn_C, rt_C, 2), (rn_H, rt_H, 3), (rn_N, rt_N, 7), (rn_P, rt_P, 3), (rn_T, rt_T, 9), (rn_W, rt_W, 11), (rn_L, rt_L, 7), (rn_M, rt_M, 34)]
abbrev co_L_init : ByteArray := prog_1_method_1_code
def my_L_init : MethodName := ⟨rn_L, "<init>", "()V"⟩
abbrev co_L_collector : ByteArray := prog_1_method_2_code
def my_L_collector : MethodName := ⟨rn_L, "collector", "(I)Z"⟩
abbrev co_L_grant : ByteArray := prog_1_method_3_code
def my_L_grant : MethodName := ⟨rn_L, "grant", "(IJ)I"⟩
abbrev co_L_send : ByteArray := prog_1_method_4_code
def my_L_send : MethodName := ⟨rn_L, "send", "(IIJJI)I"⟩
abbrev co_L_close : ByteArray := prog_1_method_5_code
def my_L_close : MethodName := ⟨rn_L, "close", "(I)Z"⟩
abbrev co_L_nonce : ByteArray := prog_1_method_6_code
def my_L_nonce : MethodName := ⟨rn_L, "nonce", "(I)I"⟩
abbrev co_L_balance : ByteArray := prog_1_method_7_code
def my_L_balance : MethodName := ⟨rn_L, "balance", "(I)J"⟩
abbrev co_L_accounts : ByteArray := prog_1_method_8_code
def my_L_accounts : MethodName := ⟨rn_L, "accounts", "()I"⟩
abbrev co_L_root : ByteArray := prog_1_method_9_code
def my_L_root : MethodName := ⟨rn_L, "root", "(I)J"⟩
abbrev co_L_nodes : ByteArray := prog_1_method_10_code
def my_L_nodes : MethodName := ⟨rn_L, "nodes", "(I)I"⟩
abbrev co_L_size : ByteArray := prog_1_method_11_code
def my_L_size : MethodName := ⟨rn_L, "size", "()I"⟩
abbrev co_L_prove : ByteArray := prog_1_method_12_code
def my_L_prove : MethodName := ⟨rn_L, "prove", "(I)I"⟩
abbrev co_L_parts : ByteArray := prog_1_method_13_code
def my_L_parts : MethodName := ⟨rn_L, "parts", "()I"⟩
abbrev co_L_length : ByteArray := prog_1_method_14_code
def my_L_length : MethodName := ⟨rn_L, "length", "(I)I"⟩
abbrev co_L_part : ByteArray := prog_1_method_15_code
def my_L_part : MethodName := ⟨rn_L, "part", "(II)I"⟩
abbrev co_L_alter : ByteArray := prog_1_method_16_code
def my_L_alter : MethodName := ⟨rn_L, "alter", "(III)Z"⟩
abbrev co_L_shorten : ByteArray := prog_1_method_17_code
def my_L_shorten : MethodName := ⟨rn_L, "shorten", "()I"⟩
abbrev co_L_check : ByteArray := prog_1_method_18_code
def my_L_check : MethodName := ⟨rn_L, "check", "(I)I"⟩
abbrev co_L_proven : ByteArray := prog_1_method_19_code
def my_L_proven : MethodName := ⟨rn_L, "proven", "(I)J"⟩
abbrev co_L_isAccount : ByteArray := prog_1_method_20_code
def my_L_isAccount : MethodName := ⟨rn_L, "isAccount", "(I)Z"⟩
abbrev co_L_isSendable : ByteArray := prog_1_method_21_code
def my_L_isSendable : MethodName := ⟨rn_L, "isSendable", "(J)Z"⟩
abbrev co_L_digit : ByteArray := prog_1_method_22_code
def my_L_digit : MethodName := ⟨rn_L, "digit", "(II)I"⟩
abbrev co_L_newcomers : ByteArray := prog_1_method_23_code
def my_L_newcomers : MethodName := ⟨rn_L, "newcomers", "(IIJJ)I"⟩
abbrev co_M_init : ByteArray := prog_10_method_1_code
def my_M_init : MethodName := ⟨rn_M, "<init>", "()V"⟩
abbrev co_M_turn : ByteArray := prog_10_method_2_code
def my_M_turn : MethodName := ⟨rn_M, "turn", "(JI)J"⟩
abbrev co_M_round : ByteArray := prog_10_method_3_code
def my_M_round : MethodName := ⟨rn_M, "round", "(I)V"⟩
abbrev co_M_hashCodeNow : ByteArray := prog_10_method_4_code
def my_M_hashCodeNow : MethodName := ⟨rn_M, "hashCodeNow", "()V"⟩
abbrev co_M_put : ByteArray := prog_10_method_5_code
def my_M_put : MethodName := ⟨rn_M, "put", "(I)V"⟩
abbrev co_M_putRow : ByteArray := prog_10_method_6_code
def my_M_putRow : MethodName := ⟨rn_M, "putRow", "([II)V"⟩
abbrev co_M_finish : ByteArray := prog_10_method_7_code
def my_M_finish : MethodName := ⟨rn_M, "finish", "()V"⟩
abbrev co_M_bytesOf : ByteArray := prog_10_method_8_code
def my_M_bytesOf : MethodName := ⟨rn_M, "bytesOf", "(J)I"⟩
abbrev co_M_putNumber : ByteArray := prog_10_method_9_code
def my_M_putNumber : MethodName := ⟨rn_M, "putNumber", "(IJ)I"⟩
abbrev co_M_digit : ByteArray := prog_10_method_10_code
def my_M_digit : MethodName := ⟨rn_M, "digit", "(II)I"⟩
abbrev co_M_putDigits : ByteArray := prog_10_method_11_code
def my_M_putDigits : MethodName := ⟨rn_M, "putDigits", "(IIIZ)V"⟩
abbrev co_M_agree : ByteArray := prog_10_method_12_code
def my_M_agree : MethodName := ⟨rn_M, "agree", "(III)Z"⟩
abbrev co_M_group : ByteArray := prog_10_method_13_code
def my_M_group : MethodName := ⟨rn_M, "group", "(II)I"⟩
abbrev co_M_common : ByteArray := prog_10_method_14_code
def my_M_common : MethodName := ⟨rn_M, "common", "(II)I"⟩
abbrev co_M_first : ByteArray := prog_10_method_15_code
def my_M_first : MethodName := ⟨rn_M, "first", "(II)I"⟩
abbrev co_M_putReference : ByteArray := prog_10_method_16_code
def my_M_putReference : MethodName := ⟨rn_M, "putReference", "(II)V"⟩
abbrev co_M_build : ByteArray := prog_10_method_17_code
def my_M_build : MethodName := ⟨rn_M, "build", "(II)V"⟩
abbrev co_M_note : ByteArray := prog_10_method_18_code
def my_M_note : MethodName := ⟨rn_M, "note", "(II)V"⟩
abbrev co_M_top : ByteArray := prog_10_method_19_code
def my_M_top : MethodName := ⟨rn_M, "top", "()V"⟩
abbrev co_M_work : ByteArray := prog_10_method_20_code
def my_M_work : MethodName := ⟨rn_M, "work", "()V"⟩
abbrev co_M_isAccount : ByteArray := prog_10_method_21_code
def my_M_isAccount : MethodName := ⟨rn_M, "isAccount", "(I)Z"⟩
abbrev co_M_find : ByteArray := prog_10_method_22_code
def my_M_find : MethodName := ⟨rn_M, "find", "(I)I"⟩
abbrev co_M_open : ByteArray := prog_10_method_23_code
def my_M_open : MethodName := ⟨rn_M, "open", "(I)I"⟩
abbrev co_M_collector : ByteArray := prog_10_method_24_code
def my_M_collector : MethodName := ⟨rn_M, "collector", "(I)Z"⟩
abbrev co_M_grant : ByteArray := prog_10_method_25_code
def my_M_grant : MethodName := ⟨rn_M, "grant", "(IJ)I"⟩
abbrev co_M_isAmount : ByteArray := prog_10_method_26_code
def my_M_isAmount : MethodName := ⟨rn_M, "isAmount", "(J)Z"⟩
abbrev co_M_send : ByteArray := prog_10_method_27_code
def my_M_send : MethodName := ⟨rn_M, "send", "(IIJJI)I"⟩
abbrev co_M_close : ByteArray := prog_10_method_28_code
def my_M_close : MethodName := ⟨rn_M, "close", "(I)Z"⟩
abbrev co_M_nonce : ByteArray := prog_10_method_29_code
def my_M_nonce : MethodName := ⟨rn_M, "nonce", "(I)I"⟩
abbrev co_M_balance : ByteArray := prog_10_method_30_code
def my_M_balance : MethodName := ⟨rn_M, "balance", "(I)J"⟩
abbrev co_M_accounts : ByteArray := prog_10_method_31_code
def my_M_accounts : MethodName := ⟨rn_M, "accounts", "()I"⟩
abbrev co_M_root : ByteArray := prog_10_method_32_code
def my_M_root : MethodName := ⟨rn_M, "root", "(I)J"⟩
abbrev co_M_markBelow : ByteArray := prog_10_method_33_code
def my_M_markBelow : MethodName := ⟨rn_M, "markBelow", "(II)V"⟩
abbrev co_M_nodes : ByteArray := prog_10_method_34_code
def my_M_nodes : MethodName := ⟨rn_M, "nodes", "(I)I"⟩
abbrev co_M_size : ByteArray := prog_10_method_35_code
def my_M_size : MethodName := ⟨rn_M, "size", "()I"⟩
abbrev co_M_keepPart : ByteArray := prog_10_method_36_code
def my_M_keepPart : MethodName := ⟨rn_M, "keepPart", "()V"⟩
abbrev co_M_prove : ByteArray := prog_10_method_37_code
def my_M_prove : MethodName := ⟨rn_M, "prove", "(I)I"⟩
abbrev co_M_parts : ByteArray := prog_10_method_38_code
def my_M_parts : MethodName := ⟨rn_M, "parts", "()I"⟩
abbrev co_M_isByte : ByteArray := prog_10_method_39_code
def my_M_isByte : MethodName := ⟨rn_M, "isByte", "(II)Z"⟩
abbrev co_M_length : ByteArray := prog_10_method_40_code
def my_M_length : MethodName := ⟨rn_M, "length", "(I)I"⟩
abbrev co_M_part : ByteArray := prog_10_method_41_code
def my_M_part : MethodName := ⟨rn_M, "part", "(II)I"⟩
abbrev co_M_alter : ByteArray := prog_10_method_42_code
def my_M_alter : MethodName := ⟨rn_M, "alter", "(III)Z"⟩
abbrev co_M_shorten : ByteArray := prog_10_method_43_code
def my_M_shorten : MethodName := ⟨rn_M, "shorten", "()I"⟩
abbrev co_M_byteOf : ByteArray := prog_10_method_44_code
def my_M_byteOf : MethodName := ⟨rn_M, "byteOf", "(II)I"⟩
abbrev co_M_itemEnd : ByteArray := prog_10_method_45_code
def my_M_itemEnd : MethodName := ⟨rn_M, "itemEnd", "(II)I"⟩
abbrev co_M_itemBytes : ByteArray := prog_10_method_46_code
def my_M_itemBytes : MethodName := ⟨rn_M, "itemBytes", "(II)I"⟩
abbrev co_M_nodeItems : ByteArray := prog_10_method_47_code
def my_M_nodeItems : MethodName := ⟨rn_M, "nodeItems", "(II)I"⟩
abbrev co_M_nodeBytes : ByteArray := prog_10_method_48_code
def my_M_nodeBytes : MethodName := ⟨rn_M, "nodeBytes", "(II)I"⟩
abbrev co_M_itemNumber : ByteArray := prog_10_method_49_code
def my_M_itemNumber : MethodName := ⟨rn_M, "itemNumber", "(II)J"⟩
abbrev co_M_hashPart : ByteArray := prog_10_method_50_code
def my_M_hashPart : MethodName := ⟨rn_M, "hashPart", "(I)V"⟩
abbrev co_M_half : ByteArray := prog_10_method_51_code
def my_M_half : MethodName := ⟨rn_M, "half", "(III)I"⟩
abbrev co_M_digitsOf : ByteArray := prog_10_method_52_code
def my_M_digitsOf : MethodName := ⟨rn_M, "digitsOf", "(IIII)I"⟩
abbrev co_M_goOn : ByteArray := prog_10_method_53_code
def my_M_goOn : MethodName := ⟨rn_M, "goOn", "(I)V"⟩
abbrev co_M_passNode : ByteArray := prog_10_method_54_code
def my_M_passNode : MethodName := ⟨rn_M, "passNode", "(I)V"⟩
abbrev co_M_check : ByteArray := prog_10_method_55_code
def my_M_check : MethodName := ⟨rn_M, "check", "(I)I"⟩
abbrev co_M_proven : ByteArray := prog_10_method_56_code
def my_M_proven : MethodName := ⟨rn_M, "proven", "(I)J"⟩
abbrev co_B_init : ByteArray := prog_2_method_1_code
def my_B_init : MethodName := ⟨rn_B, "<init>", "()V"⟩
abbrev co_B_count : ByteArray := prog_2_method_2_code
def my_B_count : MethodName := ⟨rn_B, "count", "()I"⟩
abbrev co_B_has : ByteArray := prog_2_method_3_code
def my_B_has : MethodName := ⟨rn_B, "has", "(I)Z"⟩
abbrev co_B_nonceOf : ByteArray := prog_2_method_4_code
def my_B_nonceOf : MethodName := ⟨rn_B, "nonceOf", "(I)I"⟩
abbrev co_B_balanceOf : ByteArray := prog_2_method_5_code
def my_B_balanceOf : MethodName := ⟨rn_B, "balanceOf", "(I)J"⟩
abbrev co_B_numberAt : ByteArray := prog_2_method_6_code
def my_B_numberAt : MethodName := ⟨rn_B, "numberAt", "(I)I"⟩
abbrev co_B_credit : ByteArray := prog_2_method_7_code
def my_B_credit : MethodName := ⟨rn_B, "credit", "(IJ)V"⟩
abbrev co_B_put : ByteArray := prog_2_method_8_code
def my_B_put : MethodName := ⟨rn_B, "put", "(IIJ)V"⟩
abbrev co_B_find : ByteArray := prog_2_method_9_code
def my_B_find : MethodName := ⟨rn_B, "find", "(I)I"⟩
abbrev co_B_insert : ByteArray := prog_2_method_10_code
def my_B_insert : MethodName := ⟨rn_B, "insert", "(I)I"⟩
abbrev co_B_remove : ByteArray := prog_2_method_11_code
def my_B_remove : MethodName := ⟨rn_B, "remove", "(I)V"⟩
abbrev co_B_move : ByteArray := prog_2_method_12_code
def my_B_move : MethodName := ⟨rn_B, "move", "(II)V"⟩
abbrev co_C_init : ByteArray := prog_3_method_1_code
def my_C_init : MethodName := ⟨rn_C, "<init>", "()V"⟩
abbrev co_C_clear : ByteArray := prog_3_method_2_code
def my_C_clear : MethodName := ⟨rn_C, "clear", "()V"⟩
abbrev co_C_used : ByteArray := prog_3_method_3_code
def my_C_used : MethodName := ⟨rn_C, "used", "()I"⟩
abbrev co_C_bytes : ByteArray := prog_3_method_4_code
def my_C_bytes : MethodName := ⟨rn_C, "bytes", "()[I"⟩
abbrev co_C_put : ByteArray := prog_3_method_5_code
def my_C_put : MethodName := ⟨rn_C, "put", "(I)V"⟩
abbrev co_C_copy : ByteArray := prog_3_method_6_code
def my_C_copy : MethodName := ⟨rn_C, "copy", "(II)V"⟩
abbrev co_C_open : ByteArray := prog_3_method_7_code
def my_C_open : MethodName := ⟨rn_C, "open", "()I"⟩
abbrev co_C_shut : ByteArray := prog_3_method_8_code
def my_C_shut : MethodName := ⟨rn_C, "shut", "(II)V"⟩
abbrev co_C_putHead : ByteArray := prog_3_method_9_code
def my_C_putHead : MethodName := ⟨rn_C, "putHead", "(II)V"⟩
abbrev co_C_putNumber : ByteArray := prog_3_method_10_code
def my_C_putNumber : MethodName := ⟨rn_C, "putNumber", "(J)V"⟩
abbrev co_C_putDigits : ByteArray := prog_3_method_11_code
def my_C_putDigits : MethodName := ⟨rn_C, "putDigits", "(IIIZ)V"⟩
abbrev co_H_init : ByteArray := prog_4_method_1_code
def my_H_init : MethodName := ⟨rn_H, "<init>", "()V"⟩
abbrev co_H_hash : ByteArray := prog_4_method_2_code
def my_H_hash : MethodName := ⟨rn_H, "hash", "([III)V"⟩
abbrev co_H_hashByte : ByteArray := prog_4_method_3_code
def my_H_hashByte : MethodName := ⟨rn_H, "hashByte", "(I)I"⟩
abbrev co_H_standsIn : ByteArray := prog_4_method_4_code
def my_H_standsIn : MethodName := ⟨rn_H, "standsIn", "([III)Z"⟩
abbrev co_H_doRounds : ByteArray := prog_4_method_5_code
def my_H_doRounds : MethodName := ⟨rn_H, "doRounds", "()V"⟩
abbrev co_H_mixColumns : ByteArray := prog_4_method_6_code
def my_H_mixColumns : MethodName := ⟨rn_H, "mixColumns", "()V"⟩
abbrev co_H_turnWords : ByteArray := prog_4_method_7_code
def my_H_turnWords : MethodName := ⟨rn_H, "turnWords", "()V"⟩
abbrev co_H_mixRows : ByteArray := prog_4_method_8_code
def my_H_mixRows : MethodName := ⟨rn_H, "mixRows", "()V"⟩
abbrev co_N_init : ByteArray := prog_5_method_1_code
def my_N_init : MethodName := ⟨rn_N, "<init>", "()V"⟩
abbrev co_N_become : ByteArray := prog_5_method_2_code
def my_N_become : MethodName := ⟨rn_N, "become", "(IIII)V"⟩
abbrev co_N_next : ByteArray := prog_5_method_3_code
def my_N_next : MethodName := ⟨rn_N, "next", "(I)LProvenLedger$Node;"⟩
abbrev co_N_hasDigitsOf : ByteArray := prog_5_method_4_code
def my_N_hasDigitsOf : MethodName := ⟨rn_N, "hasDigitsOf", "(I)Z"⟩
abbrev co_P_init : ByteArray := prog_6_method_1_code
def my_P_init : MethodName := ⟨rn_P, "<init>", "()V"⟩
abbrev co_P_count : ByteArray := prog_6_method_2_code
def my_P_count : MethodName := ⟨rn_P, "count", "()I"⟩
abbrev co_P_clear : ByteArray := prog_6_method_3_code
def my_P_clear : MethodName := ⟨rn_P, "clear", "()V"⟩
abbrev co_P_add : ByteArray := prog_6_method_4_code
def my_P_add : MethodName := ⟨rn_P, "add", "([III)V"⟩
abbrev co_P_dropLast : ByteArray := prog_6_method_5_code
def my_P_dropLast : MethodName := ⟨rn_P, "dropLast", "()V"⟩
abbrev co_P_hasPart : ByteArray := prog_6_method_6_code
def my_P_hasPart : MethodName := ⟨rn_P, "hasPart", "(I)Z"⟩
abbrev co_P_hasByte : ByteArray := prog_6_method_7_code
def my_P_hasByte : MethodName := ⟨rn_P, "hasByte", "(II)Z"⟩
abbrev co_P_lengthOf : ByteArray := prog_6_method_8_code
def my_P_lengthOf : MethodName := ⟨rn_P, "lengthOf", "(I)I"⟩
abbrev co_P_rowOf : ByteArray := prog_6_method_9_code
def my_P_rowOf : MethodName := ⟨rn_P, "rowOf", "(I)[I"⟩
abbrev co_P_byteAt : ByteArray := prog_6_method_10_code
def my_P_byteAt : MethodName := ⟨rn_P, "byteAt", "(II)I"⟩
abbrev co_P_setByte : ByteArray := prog_6_method_11_code
def my_P_setByte : MethodName := ⟨rn_P, "setByte", "(III)V"⟩
abbrev co_T_init : ByteArray := prog_7_method_1_code
def my_T_init : MethodName := ⟨rn_T, "<init>", "(LProvenLedger$Book;LProvenLedger$Hasher;)V"⟩
abbrev co_T_outdate : ByteArray := prog_7_method_2_code
def my_T_outdate : MethodName := ⟨rn_T, "outdate", "()V"⟩
abbrev co_T_refresh : ByteArray := prog_7_method_3_code
def my_T_refresh : MethodName := ⟨rn_T, "refresh", "()V"⟩
abbrev co_T_topLength : ByteArray := prog_7_method_4_code
def my_T_topLength : MethodName := ⟨rn_T, "topLength", "()I"⟩
abbrev co_T_rootRow : ByteArray := prog_7_method_5_code
def my_T_rootRow : MethodName := ⟨rn_T, "rootRow", "()[I"⟩
abbrev co_T_rootByte : ByteArray := prog_7_method_6_code
def my_T_rootByte : MethodName := ⟨rn_T, "rootByte", "(I)I"⟩
abbrev co_T_countOf : ByteArray := prog_7_method_7_code
def my_T_countOf : MethodName := ⟨rn_T, "countOf", "(I)I"⟩
abbrev co_T_writeProof : ByteArray := prog_7_method_8_code
def my_T_writeProof : MethodName := ⟨rn_T, "writeProof", "(ILProvenLedger$Proof;)V"⟩
abbrev co_T_isHashed : ByteArray := prog_7_method_9_code
def my_T_isHashed : MethodName := ⟨rn_T, "isHashed", "(LProvenLedger$Node;)Z"⟩
abbrev co_T_grow : ByteArray := prog_7_method_10_code
def my_T_grow : MethodName := ⟨rn_T, "grow", "(III)LProvenLedger$Node;"⟩
abbrev co_T_agreedDepth : ByteArray := prog_7_method_11_code
def my_T_agreedDepth : MethodName := ⟨rn_T, "agreedDepth", "(III)I"⟩
abbrev co_T_growNothing : ByteArray := prog_7_method_12_code
def my_T_growNothing : MethodName := ⟨rn_T, "growNothing", "()LProvenLedger$Node;"⟩
abbrev co_T_growLeaf : ByteArray := prog_7_method_13_code
def my_T_growLeaf : MethodName := ⟨rn_T, "growLeaf", "(II)LProvenLedger$Node;"⟩
abbrev co_T_growStem : ByteArray := prog_7_method_14_code
def my_T_growStem : MethodName := ⟨rn_T, "growStem", "(IIII)LProvenLedger$Node;"⟩
abbrev co_T_growFork : ByteArray := prog_7_method_15_code
def my_T_growFork : MethodName := ⟨rn_T, "growFork", "(III)LProvenLedger$Node;"⟩
abbrev co_T_putReference : ByteArray := prog_7_method_16_code
def my_T_putReference : MethodName := ⟨rn_T, "putReference", "(LProvenLedger$Node;)V"⟩
abbrev co_T_take : ByteArray := prog_7_method_17_code
def my_T_take : MethodName := ⟨rn_T, "take", "(IIII)LProvenLedger$Node;"⟩
abbrev co_T_finish : ByteArray := prog_7_method_18_code
def my_T_finish : MethodName := ⟨rn_T, "finish", "(LProvenLedger$Node;I)LProvenLedger$Node;"⟩
abbrev co_W_init : ByteArray := prog_8_method_1_code
def my_W_init : MethodName := ⟨rn_W, "<init>", "(LProvenLedger$Proof;LProvenLedger$Hasher;)V"⟩
abbrev co_W_follow : ByteArray := prog_8_method_2_code
def my_W_follow : MethodName := ⟨rn_W, "follow", "(I[I)I"⟩
abbrev co_W_foundNonce : ByteArray := prog_8_method_3_code
def my_W_foundNonce : MethodName := ⟨rn_W, "foundNonce", "()J"⟩
abbrev co_W_foundBalance : ByteArray := prog_8_method_4_code
def my_W_foundBalance : MethodName := ⟨rn_W, "foundBalance", "()J"⟩
abbrev co_W_enterPart : ByteArray := prog_8_method_5_code
def my_W_enterPart : MethodName := ⟨rn_W, "enterPart", "(I[III)Z"⟩
abbrev co_W_goOn : ByteArray := prog_8_method_6_code
def my_W_goOn : MethodName := ⟨rn_W, "goOn", "(I)I"⟩
abbrev co_W_passNode : ByteArray := prog_8_method_7_code
def my_W_passNode : MethodName := ⟨rn_W, "passNode", "()I"⟩
abbrev co_W_passDigits : ByteArray := prog_8_method_8_code
def my_W_passDigits : MethodName := ⟨rn_W, "passDigits", "(II)I"⟩
abbrev co_W_haveDigits : ByteArray := prog_8_method_9_code
def my_W_haveDigits : MethodName := ⟨rn_W, "haveDigits", "(III)Z"⟩
abbrev co_W_passFork : ByteArray := prog_8_method_10_code
def my_W_passFork : MethodName := ⟨rn_W, "passFork", "(I)I"⟩
abbrev co_W_findValue : ByteArray := prog_8_method_11_code
def my_W_findValue : MethodName := ⟨rn_W, "findValue", "(I)V"⟩
abbrev co_W_numberAt : ByteArray := prog_8_method_12_code
def my_W_numberAt : MethodName := ⟨rn_W, "numberAt", "(II)J"⟩
abbrev co_W_firstItem : ByteArray := prog_8_method_13_code
def my_W_firstItem : MethodName := ⟨rn_W, "firstItem", "()I"⟩
abbrev co_W_nodeEnd : ByteArray := prog_8_method_14_code
def my_W_nodeEnd : MethodName := ⟨rn_W, "nodeEnd", "(I)I"⟩
abbrev co_W_bytesBegin : ByteArray := prog_8_method_15_code
def my_W_bytesBegin : MethodName := ⟨rn_W, "bytesBegin", "(I)I"⟩
abbrev co_W_itemEnd : ByteArray := prog_8_method_16_code
def my_W_itemEnd : MethodName := ⟨rn_W, "itemEnd", "(I)I"⟩
abbrev co_W_byteAt : ByteArray := prog_8_method_17_code
def my_W_byteAt : MethodName := ⟨rn_W, "byteAt", "(I)I"⟩
abbrev co_Law_law : ByteArray := code
def my_Law_law : MethodName := ⟨rn_Law, "law", "([I)Z"⟩
/-- the tables' words that hold on wherever a callee begins -/
def pl_tb : List Cond := lw_tbl.filter goodWord
theorem pl_gw : ∀ w ∈ pl_tb, (w.onTables && w.keeps) = true ∨ ∃ ty, w = .arrayClass ty := fun w h => good_of_word (List.mem_filter.mp h).2
theorem pl_mw {w : Cond} (i : Nat) (h : lw_tbl[i]? = some w) (hg : goodWord w = true) : w ∈ pl_tb := List.mem_filter.mpr ⟨List.mem_of_getElem? h, hg⟩
end
section
theorem dc_B_init_0 : decode co_B_init 0 = .ok (.aload_n 0, 1) := by decide +kernel
theorem dc_B_init_1 : decode co_B_init 1 = .ok (.invokespecial 3, 3) := by decide +kernel
theorem dc_B_init_4 : decode co_B_init 4 = .ok (.aload_n 0, 1) := by decide +kernel
theorem dc_B_init_5 : decode co_B_init 5 = .ok (.bipush 12, 2) := by decide +kernel
theorem dc_B_init_7 : decode co_B_init 7 = .ok (.newarray .int, 2) := by decide +kernel
theorem dc_B_init_9 : decode co_B_init 9 = .ok (.putfield 9, 3) := by decide +kernel
theorem dc_B_init_12 : decode co_B_init 12 = .ok (.aload_n 0, 1) := by decide +kernel
theorem dc_B_init_13 : decode co_B_init 13 = .ok (.bipush 12, 2) := by decide +kernel
theorem dc_B_init_15 : decode co_B_init 15 = .ok (.newarray .int, 2) := by decide +kernel
theorem dc_B_init_17 : decode co_B_init 17 = .ok (.putfield 15, 3) := by decide +kernel
theorem dc_B_init_20 : decode co_B_init 20 = .ok (.aload_n 0, 1) := by decide +kernel
theorem dc_B_init_21 : decode co_B_init 21 = .ok (.bipush 12, 2) := by decide +kernel
theorem dc_B_init_23 : decode co_B_init 23 = .ok (.newarray .long, 2) := by decide +kernel
theorem dc_B_init_25 : decode co_B_init 25 = .ok (.putfield 18, 3) := by decide +kernel
theorem dc_B_init_28 : decode co_B_init 28 = .ok (.return_, 1) := by decide +kernel
theorem dc_B_count_0 : decode co_B_count 0 = .ok (.aload_n 0, 1) := by decide +kernel
theorem dc_B_count_1 : decode co_B_count 1 = .ok (.getfield 22, 3) := by decide +kernel
theorem dc_B_count_4 : decode co_B_count 4 = .ok (.ireturn, 1) := by decide +kernel
theorem dc_B_has_0 : decode co_B_has 0 = .ok (.aload_n 0, 1) := by decide +kernel
theorem dc_B_has_1 : decode co_B_has 1 = .ok (.iload_n 1, 1) := by decide +kernel
theorem dc_B_has_2 : decode co_B_has 2 = .ok (.invokevirtual 26, 3) := by decide +kernel
theorem dc_B_has_5 : decode co_B_has 5 = .ok (.ifCond .lt 7, 3) := by decide +kernel
theorem dc_B_has_8 : decode co_B_has 8 = .ok (.iconst 1, 1) := by decide +kernel
theorem dc_B_has_9 : decode co_B_has 9 = .ok (.goto 4, 3) := by decide +kernel
theorem dc_B_has_12 : decode co_B_has 12 = .ok (.iconst 0, 1) := by decide +kernel
theorem dc_B_has_13 : decode co_B_has 13 = .ok (.ireturn, 1) := by decide +kernel
theorem dc_B_nonceOf_0 : decode co_B_nonceOf 0 = .ok (.aload_n 0, 1) := by decide +kernel
theorem dc_B_nonceOf_1 : decode co_B_nonceOf 1 = .ok (.iload_n 1, 1) := by decide +kernel
theorem dc_B_nonceOf_2 : decode co_B_nonceOf 2 = .ok (.invokevirtual 26, 3) := by decide +kernel
theorem dc_B_nonceOf_5 : decode co_B_nonceOf 5 = .ok (.istore_n 2, 1) := by decide +kernel
theorem dc_B_nonceOf_6 : decode co_B_nonceOf 6 = .ok (.iload_n 2, 1) := by decide +kernel
theorem dc_B_nonceOf_7 : decode co_B_nonceOf 7 = .ok (.ifCond .ge 7, 3) := by decide +kernel
theorem dc_B_nonceOf_10 : decode co_B_nonceOf 10 = .ok (.iconst 0, 1) := by decide +kernel
theorem dc_B_nonceOf_11 : decode co_B_nonceOf 11 = .ok (.goto 9, 3) := by decide +kernel
theorem dc_B_nonceOf_14 : decode co_B_nonceOf 14 = .ok (.aload_n 0, 1) := by decide +kernel
theorem dc_B_nonceOf_15 : decode co_B_nonceOf 15 = .ok (.getfield 15, 3) := by decide +kernel
theorem dc_B_nonceOf_18 : decode co_B_nonceOf 18 = .ok (.iload_n 2, 1) := by decide +kernel
theorem dc_B_nonceOf_19 : decode co_B_nonceOf 19 = .ok (.iaload, 1) := by decide +kernel
theorem dc_B_nonceOf_20 : decode co_B_nonceOf 20 = .ok (.ireturn, 1) := by decide +kernel
theorem dc_B_balanceOf_0 : decode co_B_balanceOf 0 = .ok (.aload_n 0, 1) := by decide +kernel
theorem dc_B_balanceOf_1 : decode co_B_balanceOf 1 = .ok (.iload_n 1, 1) := by decide +kernel
theorem dc_B_balanceOf_2 : decode co_B_balanceOf 2 = .ok (.invokevirtual 26, 3) := by decide +kernel
theorem dc_B_balanceOf_5 : decode co_B_balanceOf 5 = .ok (.istore_n 2, 1) := by decide +kernel
theorem dc_B_balanceOf_6 : decode co_B_balanceOf 6 = .ok (.iload_n 2, 1) := by decide +kernel
theorem dc_B_balanceOf_7 : decode co_B_balanceOf 7 = .ok (.ifCond .ge 7, 3) := by decide +kernel
theorem dc_B_balanceOf_10 : decode co_B_balanceOf 10 = .ok (.lconst 0, 1) := by decide +kernel
theorem dc_B_balanceOf_11 : decode co_B_balanceOf 11 = .ok (.goto 9, 3) := by decide +kernel
theorem dc_B_balanceOf_14 : decode co_B_balanceOf 14 = .ok (.aload_n 0, 1) := by decide +kernel
theorem dc_B_balanceOf_15 : decode co_B_balanceOf 15 = .ok (.getfield 18, 3) := by decide +kernel
theorem dc_B_balanceOf_18 : decode co_B_balanceOf 18 = .ok (.iload_n 2, 1) := by decide +kernel
theorem dc_B_balanceOf_19 : decode co_B_balanceOf 19 = .ok (.laload, 1) := by decide +kernel
theorem dc_B_balanceOf_20 : decode co_B_balanceOf 20 = .ok (.lreturn, 1) := by decide +kernel
theorem dc_B_numberAt_0 : decode co_B_numberAt 0 = .ok (.iload_n 1, 1) := by decide +kernel
theorem dc_B_numberAt_1 : decode co_B_numberAt 1 = .ok (.ifCond .lt 20, 3) := by decide +kernel
theorem dc_B_numberAt_4 : decode co_B_numberAt 4 = .ok (.iload_n 1, 1) := by decide +kernel
theorem dc_B_numberAt_5 : decode co_B_numberAt 5 = .ok (.aload_n 0, 1) := by decide +kernel
theorem dc_B_numberAt_6 : decode co_B_numberAt 6 = .ok (.getfield 22, 3) := by decide +kernel
theorem dc_B_numberAt_9 : decode co_B_numberAt 9 = .ok (.if_icmp .ge 12, 3) := by decide +kernel
theorem dc_B_numberAt_12 : decode co_B_numberAt 12 = .ok (.aload_n 0, 1) := by decide +kernel
theorem dc_B_numberAt_13 : decode co_B_numberAt 13 = .ok (.getfield 9, 3) := by decide +kernel
theorem dc_B_numberAt_16 : decode co_B_numberAt 16 = .ok (.iload_n 1, 1) := by decide +kernel
theorem dc_B_numberAt_17 : decode co_B_numberAt 17 = .ok (.iaload, 1) := by decide +kernel
theorem dc_B_numberAt_18 : decode co_B_numberAt 18 = .ok (.goto 4, 3) := by decide +kernel
theorem dc_B_numberAt_21 : decode co_B_numberAt 21 = .ok (.iconst 0, 1) := by decide +kernel
theorem dc_B_numberAt_22 : decode co_B_numberAt 22 = .ok (.ireturn, 1) := by decide +kernel
theorem dc_B_credit_0 : decode co_B_credit 0 = .ok (.aload_n 0, 1) := by decide +kernel
theorem dc_B_credit_1 : decode co_B_credit 1 = .ok (.iload_n 1, 1) := by decide +kernel
theorem dc_B_credit_2 : decode co_B_credit 2 = .ok (.aload_n 0, 1) := by decide +kernel
theorem dc_B_credit_3 : decode co_B_credit 3 = .ok (.iload_n 1, 1) := by decide +kernel
theorem dc_B_credit_4 : decode co_B_credit 4 = .ok (.invokevirtual 30, 3) := by decide +kernel
theorem dc_B_credit_7 : decode co_B_credit 7 = .ok (.aload_n 0, 1) := by decide +kernel
theorem dc_B_credit_8 : decode co_B_credit 8 = .ok (.iload_n 1, 1) := by decide +kernel
theorem dc_B_credit_9 : decode co_B_credit 9 = .ok (.invokevirtual 33, 3) := by decide +kernel
theorem dc_B_credit_12 : decode co_B_credit 12 = .ok (.lload_n 2, 1) := by decide +kernel
theorem dc_B_credit_13 : decode co_B_credit 13 = .ok (.ladd, 1) := by decide +kernel
theorem dc_B_credit_14 : decode co_B_credit 14 = .ok (.invokevirtual 37, 3) := by decide +kernel
theorem dc_B_credit_17 : decode co_B_credit 17 = .ok (.return_, 1) := by decide +kernel
theorem dc_B_put_0 : decode co_B_put 0 = .ok (.iload_n 2, 1) := by decide +kernel
theorem dc_B_put_1 : decode co_B_put 1 = .ok (.ifCond .ne 9, 3) := by decide +kernel
theorem dc_B_put_4 : decode co_B_put 4 = .ok (.lload_n 3, 1) := by decide +kernel
theorem dc_B_put_5 : decode co_B_put 5 = .ok (.lconst 0, 1) := by decide +kernel
theorem dc_B_put_6 : decode co_B_put 6 = .ok (.lcmp, 1) := by decide +kernel
theorem dc_B_put_7 : decode co_B_put 7 = .ok (.ifCond .eq 7, 3) := by decide +kernel
theorem dc_B_put_10 : decode co_B_put 10 = .ok (.iconst 1, 1) := by decide +kernel
theorem dc_B_put_11 : decode co_B_put 11 = .ok (.goto 4, 3) := by decide +kernel
theorem dc_B_put_14 : decode co_B_put 14 = .ok (.iconst 0, 1) := by decide +kernel
theorem dc_B_put_15 : decode co_B_put 15 = .ok (.istore 5, 2) := by decide +kernel
theorem dc_B_put_17 : decode co_B_put 17 = .ok (.aload_n 0, 1) := by decide +kernel
theorem dc_B_put_18 : decode co_B_put 18 = .ok (.iload_n 1, 1) := by decide +kernel
theorem dc_B_put_19 : decode co_B_put 19 = .ok (.invokevirtual 26, 3) := by decide +kernel
theorem dc_B_put_22 : decode co_B_put 22 = .ok (.istore 6, 2) := by decide +kernel
theorem dc_B_put_24 : decode co_B_put 24 = .ok (.iload 6, 2) := by decide +kernel
theorem dc_B_put_26 : decode co_B_put 26 = .ok (.ifCond .lt 15, 3) := by decide +kernel
theorem dc_B_put_29 : decode co_B_put 29 = .ok (.iload 5, 2) := by decide +kernel
theorem dc_B_put_31 : decode co_B_put 31 = .ok (.ifCond .ne 10, 3) := by decide +kernel
theorem dc_B_put_34 : decode co_B_put 34 = .ok (.aload_n 0, 1) := by decide +kernel
theorem dc_B_put_35 : decode co_B_put 35 = .ok (.iload 6, 2) := by decide +kernel
theorem dc_B_put_37 : decode co_B_put 37 = .ok (.invokevirtual 41, 3) := by decide +kernel
theorem dc_B_put_40 : decode co_B_put 40 = .ok (.return_, 1) := by decide +kernel
theorem dc_B_put_41 : decode co_B_put 41 = .ok (.iload 6, 2) := by decide +kernel
theorem dc_B_put_43 : decode co_B_put 43 = .ok (.ifCond .ge 15, 3) := by decide +kernel
theorem dc_B_put_46 : decode co_B_put 46 = .ok (.iload 5, 2) := by decide +kernel
theorem dc_B_put_48 : decode co_B_put 48 = .ok (.ifCond .eq 10, 3) := by decide +kernel
theorem dc_B_put_51 : decode co_B_put 51 = .ok (.aload_n 0, 1) := by decide +kernel
theorem dc_B_put_52 : decode co_B_put 52 = .ok (.iload_n 1, 1) := by decide +kernel
theorem dc_B_put_53 : decode co_B_put 53 = .ok (.invokevirtual 45, 3) := by decide +kernel
theorem dc_B_put_56 : decode co_B_put 56 = .ok (.istore 6, 2) := by decide +kernel
theorem dc_B_put_58 : decode co_B_put 58 = .ok (.iload 6, 2) := by decide +kernel
theorem dc_B_put_60 : decode co_B_put 60 = .ok (.ifCond .lt 19, 3) := by decide +kernel
theorem dc_B_put_63 : decode co_B_put 63 = .ok (.aload_n 0, 1) := by decide +kernel
theorem dc_B_put_64 : decode co_B_put 64 = .ok (.getfield 15, 3) := by decide +kernel
theorem dc_B_put_67 : decode co_B_put 67 = .ok (.iload 6, 2) := by decide +kernel
theorem dc_B_put_69 : decode co_B_put 69 = .ok (.iload_n 2, 1) := by decide +kernel
theorem dc_B_put_70 : decode co_B_put 70 = .ok (.iastore, 1) := by decide +kernel
theorem dc_B_put_71 : decode co_B_put 71 = .ok (.aload_n 0, 1) := by decide +kernel
theorem dc_B_put_72 : decode co_B_put 72 = .ok (.getfield 18, 3) := by decide +kernel
theorem dc_B_put_75 : decode co_B_put 75 = .ok (.iload 6, 2) := by decide +kernel
theorem dc_B_put_77 : decode co_B_put 77 = .ok (.lload_n 3, 1) := by decide +kernel
theorem dc_B_put_78 : decode co_B_put 78 = .ok (.lastore, 1) := by decide +kernel
theorem dc_B_put_79 : decode co_B_put 79 = .ok (.return_, 1) := by decide +kernel
theorem dc_B_find_0 : decode co_B_find 0 = .ok (.iconst 0, 1) := by decide +kernel
theorem dc_B_find_1 : decode co_B_find 1 = .ok (.istore_n 2, 1) := by decide +kernel
theorem dc_B_find_2 : decode co_B_find 2 = .ok (.iload_n 2, 1) := by decide +kernel
theorem dc_B_find_3 : decode co_B_find 3 = .ok (.aload_n 0, 1) := by decide +kernel
theorem dc_B_find_4 : decode co_B_find 4 = .ok (.getfield 22, 3) := by decide +kernel
theorem dc_B_find_7 : decode co_B_find 7 = .ok (.if_icmp .ge 21, 3) := by decide +kernel
theorem dc_B_find_10 : decode co_B_find 10 = .ok (.aload_n 0, 1) := by decide +kernel
theorem dc_B_find_11 : decode co_B_find 11 = .ok (.getfield 9, 3) := by decide +kernel
theorem dc_B_find_14 : decode co_B_find 14 = .ok (.iload_n 2, 1) := by decide +kernel
theorem dc_B_find_15 : decode co_B_find 15 = .ok (.iaload, 1) := by decide +kernel
theorem dc_B_find_16 : decode co_B_find 16 = .ok (.iload_n 1, 1) := by decide +kernel
theorem dc_B_find_17 : decode co_B_find 17 = .ok (.if_icmp .ne 5, 3) := by decide +kernel
theorem dc_B_find_20 : decode co_B_find 20 = .ok (.iload_n 2, 1) := by decide +kernel
theorem dc_B_find_21 : decode co_B_find 21 = .ok (.ireturn, 1) := by decide +kernel
theorem dc_B_find_22 : decode co_B_find 22 = .ok (.iinc 2 1, 3) := by decide +kernel
theorem dc_B_find_25 : decode co_B_find 25 = .ok (.goto (-23), 3) := by decide +kernel
theorem dc_B_find_28 : decode co_B_find 28 = .ok (.iconst (-1), 1) := by decide +kernel
theorem dc_B_find_29 : decode co_B_find 29 = .ok (.ireturn, 1) := by decide +kernel
theorem dc_B_insert_0 : decode co_B_insert 0 = .ok (.aload_n 0, 1) := by decide +kernel
theorem dc_B_insert_1 : decode co_B_insert 1 = .ok (.getfield 22, 3) := by decide +kernel
theorem dc_B_insert_4 : decode co_B_insert 4 = .ok (.bipush 12, 2) := by decide +kernel
theorem dc_B_insert_6 : decode co_B_insert 6 = .ok (.if_icmp .lt 5, 3) := by decide +kernel
theorem dc_B_insert_9 : decode co_B_insert 9 = .ok (.iconst (-1), 1) := by decide +kernel
theorem dc_B_insert_10 : decode co_B_insert 10 = .ok (.ireturn, 1) := by decide +kernel
theorem dc_B_insert_11 : decode co_B_insert 11 = .ok (.aload_n 0, 1) := by decide +kernel
theorem dc_B_insert_12 : decode co_B_insert 12 = .ok (.getfield 22, 3) := by decide +kernel
theorem dc_B_insert_15 : decode co_B_insert 15 = .ok (.istore_n 2, 1) := by decide +kernel
theorem dc_B_insert_16 : decode co_B_insert 16 = .ok (.iload_n 2, 1) := by decide +kernel
theorem dc_B_insert_17 : decode co_B_insert 17 = .ok (.ifCond .le 29, 3) := by decide +kernel
theorem dc_B_insert_20 : decode co_B_insert 20 = .ok (.aload_n 0, 1) := by decide +kernel
theorem dc_B_insert_21 : decode co_B_insert 21 = .ok (.getfield 9, 3) := by decide +kernel
theorem dc_B_insert_24 : decode co_B_insert 24 = .ok (.iload_n 2, 1) := by decide +kernel
theorem dc_B_insert_25 : decode co_B_insert 25 = .ok (.iconst 1, 1) := by decide +kernel
theorem dc_B_insert_26 : decode co_B_insert 26 = .ok (.isub, 1) := by decide +kernel
theorem dc_B_insert_27 : decode co_B_insert 27 = .ok (.iaload, 1) := by decide +kernel
theorem dc_B_insert_28 : decode co_B_insert 28 = .ok (.iload_n 1, 1) := by decide +kernel
theorem dc_B_insert_29 : decode co_B_insert 29 = .ok (.if_icmp .le 17, 3) := by decide +kernel
theorem dc_B_insert_32 : decode co_B_insert 32 = .ok (.aload_n 0, 1) := by decide +kernel
theorem dc_B_insert_33 : decode co_B_insert 33 = .ok (.iload_n 2, 1) := by decide +kernel
theorem dc_B_insert_34 : decode co_B_insert 34 = .ok (.iconst 1, 1) := by decide +kernel
theorem dc_B_insert_35 : decode co_B_insert 35 = .ok (.isub, 1) := by decide +kernel
theorem dc_B_insert_36 : decode co_B_insert 36 = .ok (.iload_n 2, 1) := by decide +kernel
theorem dc_B_insert_37 : decode co_B_insert 37 = .ok (.invokevirtual 48, 3) := by decide +kernel
theorem dc_B_insert_40 : decode co_B_insert 40 = .ok (.iinc 2 (-1), 3) := by decide +kernel
theorem dc_B_insert_43 : decode co_B_insert 43 = .ok (.goto (-27), 3) := by decide +kernel
theorem dc_B_insert_46 : decode co_B_insert 46 = .ok (.aload_n 0, 1) := by decide +kernel
theorem dc_B_insert_47 : decode co_B_insert 47 = .ok (.getfield 9, 3) := by decide +kernel
theorem dc_B_insert_50 : decode co_B_insert 50 = .ok (.iload_n 2, 1) := by decide +kernel
theorem dc_B_insert_51 : decode co_B_insert 51 = .ok (.iload_n 1, 1) := by decide +kernel
theorem dc_B_insert_52 : decode co_B_insert 52 = .ok (.iastore, 1) := by decide +kernel
theorem dc_B_insert_53 : decode co_B_insert 53 = .ok (.aload_n 0, 1) := by decide +kernel
theorem dc_B_insert_54 : decode co_B_insert 54 = .ok (.dup, 1) := by decide +kernel
theorem dc_B_insert_55 : decode co_B_insert 55 = .ok (.getfield 22, 3) := by decide +kernel
theorem dc_B_insert_58 : decode co_B_insert 58 = .ok (.iconst 1, 1) := by decide +kernel
theorem dc_B_insert_59 : decode co_B_insert 59 = .ok (.iadd, 1) := by decide +kernel
theorem dc_B_insert_60 : decode co_B_insert 60 = .ok (.putfield 22, 3) := by decide +kernel
theorem dc_B_insert_63 : decode co_B_insert 63 = .ok (.iload_n 2, 1) := by decide +kernel
theorem dc_B_insert_64 : decode co_B_insert 64 = .ok (.ireturn, 1) := by decide +kernel
theorem dc_B_remove_0 : decode co_B_remove 0 = .ok (.iload_n 1, 1) := by decide +kernel
theorem dc_B_remove_1 : decode co_B_remove 1 = .ok (.istore_n 2, 1) := by decide +kernel
theorem dc_B_remove_2 : decode co_B_remove 2 = .ok (.iload_n 2, 1) := by decide +kernel
theorem dc_B_remove_3 : decode co_B_remove 3 = .ok (.aload_n 0, 1) := by decide +kernel
theorem dc_B_remove_4 : decode co_B_remove 4 = .ok (.getfield 22, 3) := by decide +kernel
theorem dc_B_remove_7 : decode co_B_remove 7 = .ok (.iconst 1, 1) := by decide +kernel
theorem dc_B_remove_8 : decode co_B_remove 8 = .ok (.isub, 1) := by decide +kernel
theorem dc_B_remove_9 : decode co_B_remove 9 = .ok (.if_icmp .ge 17, 3) := by decide +kernel
theorem dc_B_remove_12 : decode co_B_remove 12 = .ok (.aload_n 0, 1) := by decide +kernel
theorem dc_B_remove_13 : decode co_B_remove 13 = .ok (.iload_n 2, 1) := by decide +kernel
theorem dc_B_remove_14 : decode co_B_remove 14 = .ok (.iconst 1, 1) := by decide +kernel
theorem dc_B_remove_15 : decode co_B_remove 15 = .ok (.iadd, 1) := by decide +kernel
theorem dc_B_remove_16 : decode co_B_remove 16 = .ok (.iload_n 2, 1) := by decide +kernel
theorem dc_B_remove_17 : decode co_B_remove 17 = .ok (.invokevirtual 48, 3) := by decide +kernel
theorem dc_B_remove_20 : decode co_B_remove 20 = .ok (.iinc 2 1, 3) := by decide +kernel
theorem dc_B_remove_23 : decode co_B_remove 23 = .ok (.goto (-21), 3) := by decide +kernel
theorem dc_B_remove_26 : decode co_B_remove 26 = .ok (.aload_n 0, 1) := by decide +kernel
theorem dc_B_remove_27 : decode co_B_remove 27 = .ok (.dup, 1) := by decide +kernel
theorem dc_B_remove_28 : decode co_B_remove 28 = .ok (.getfield 22, 3) := by decide +kernel
theorem dc_B_remove_31 : decode co_B_remove 31 = .ok (.iconst 1, 1) := by decide +kernel
theorem dc_B_remove_32 : decode co_B_remove 32 = .ok (.isub, 1) := by decide +kernel
theorem dc_B_remove_33 : decode co_B_remove 33 = .ok (.putfield 22, 3) := by decide +kernel
theorem dc_B_remove_36 : decode co_B_remove 36 = .ok (.return_, 1) := by decide +kernel
theorem dc_B_move_0 : decode co_B_move 0 = .ok (.aload_n 0, 1) := by decide +kernel
theorem dc_B_move_1 : decode co_B_move 1 = .ok (.getfield 9, 3) := by decide +kernel
theorem dc_B_move_4 : decode co_B_move 4 = .ok (.iload_n 2, 1) := by decide +kernel
theorem dc_B_move_5 : decode co_B_move 5 = .ok (.aload_n 0, 1) := by decide +kernel
theorem dc_B_move_6 : decode co_B_move 6 = .ok (.getfield 9, 3) := by decide +kernel
theorem dc_B_move_9 : decode co_B_move 9 = .ok (.iload_n 1, 1) := by decide +kernel
theorem dc_B_move_10 : decode co_B_move 10 = .ok (.iaload, 1) := by decide +kernel
theorem dc_B_move_11 : decode co_B_move 11 = .ok (.iastore, 1) := by decide +kernel
theorem dc_B_move_12 : decode co_B_move 12 = .ok (.aload_n 0, 1) := by decide +kernel
theorem dc_B_move_13 : decode co_B_move 13 = .ok (.getfield 15, 3) := by decide +kernel
theorem dc_B_move_16 : decode co_B_move 16 = .ok (.iload_n 2, 1) := by decide +kernel
theorem dc_B_move_17 : decode co_B_move 17 = .ok (.aload_n 0, 1) := by decide +kernel
theorem dc_B_move_18 : decode co_B_move 18 = .ok (.getfield 15, 3) := by decide +kernel
theorem dc_B_move_21 : decode co_B_move 21 = .ok (.iload_n 1, 1) := by decide +kernel
theorem dc_B_move_22 : decode co_B_move 22 = .ok (.iaload, 1) := by decide +kernel
theorem dc_B_move_23 : decode co_B_move 23 = .ok (.iastore, 1) := by decide +kernel
theorem dc_B_move_24 : decode co_B_move 24 = .ok (.aload_n 0, 1) := by decide +kernel
theorem dc_B_move_25 : decode co_B_move 25 = .ok (.getfield 18, 3) := by decide +kernel
theorem dc_B_move_28 : decode co_B_move 28 = .ok (.iload_n 2, 1) := by decide +kernel
theorem dc_B_move_29 : decode co_B_move 29 = .ok (.aload_n 0, 1) := by decide +kernel
theorem dc_B_move_30 : decode co_B_move 30 = .ok (.getfield 18, 3) := by decide +kernel
theorem dc_B_move_33 : decode co_B_move 33 = .ok (.iload_n 1, 1) := by decide +kernel
theorem dc_B_move_34 : decode co_B_move 34 = .ok (.laload, 1) := by decide +kernel
theorem dc_B_move_35 : decode co_B_move 35 = .ok (.lastore, 1) := by decide +kernel
theorem dc_B_move_36 : decode co_B_move 36 = .ok (.return_, 1) := by decide +kernel
end
section
theorem mw_93 : Cond.laysFinal "ProvenLedger$Book" "ProvenLedger$Book" "numbers" "[I" ∈ pl_tb := pl_mw 93 (by decide +kernel) (by decide +kernel)
theorem mw_95 : Cond.laysFinal "ProvenLedger$Book" "ProvenLedger$Book" "nonces" "[I" ∈ pl_tb := pl_mw 95 (by decide +kernel) (by decide +kernel)
theorem mw_97 : Cond.laysFinal "ProvenLedger$Book" "ProvenLedger$Book" "balances" "[J" ∈ pl_tb := pl_mw 97 (by decide +kernel) (by decide +kernel)
theorem mw_99 : Cond.lays "ProvenLedger$Book" "ProvenLedger$Book" "count" "I" ∈ pl_tb := pl_mw 99 (by decide +kernel) (by decide +kernel)
theorem mw_113 : Cond.laysFinal "ProvenLedger$Hasher" "ProvenLedger$Hasher" "words" "[J" ∈ pl_tb := pl_mw 113 (by decide +kernel) (by decide +kernel)
theorem mw_115 : Cond.laysFinal "ProvenLedger$Hasher" "ProvenLedger$Hasher" "turned" "[J" ∈ pl_tb := pl_mw 115 (by decide +kernel) (by decide +kernel)
theorem mw_117 : Cond.laysFinal "ProvenLedger$Hasher" "ProvenLedger$Hasher" "columns" "[J" ∈ pl_tb := pl_mw 117 (by decide +kernel) (by decide +kernel)
theorem mw_134 : Cond.laysFinal "ProvenLedger$Code" "ProvenLedger$Code" "bytes" "[I" ∈ pl_tb := pl_mw 134 (by decide +kernel) (by decide +kernel)
theorem mw_136 : Cond.lays "ProvenLedger$Code" "ProvenLedger$Code" "used" "I" ∈ pl_tb := pl_mw 136 (by decide +kernel) (by decide +kernel)
theorem mw_155 : Cond.laysFinal "ProvenLedger$Node" "ProvenLedger$Node" "below" "[LProvenLedger$Node;" ∈ pl_tb := pl_mw 155 (by decide +kernel) (by decide +kernel)
theorem mw_157 : Cond.lays "ProvenLedger$Node" "ProvenLedger$Node" "kind" "I" ∈ pl_tb := pl_mw 157 (by decide +kernel) (by decide +kernel)
theorem mw_159 : Cond.lays "ProvenLedger$Node" "ProvenLedger$Node" "account" "I" ∈ pl_tb := pl_mw 159 (by decide +kernel) (by decide +kernel)
theorem mw_161 : Cond.lays "ProvenLedger$Node" "ProvenLedger$Node" "depth" "I" ∈ pl_tb := pl_mw 161 (by decide +kernel) (by decide +kernel)
theorem mw_163 : Cond.lays "ProvenLedger$Node" "ProvenLedger$Node" "end" "I" ∈ pl_tb := pl_mw 163 (by decide +kernel) (by decide +kernel)
theorem mw_165 : Cond.lays "ProvenLedger$Node" "ProvenLedger$Node" "begin" "I" ∈ pl_tb := pl_mw 165 (by decide +kernel) (by decide +kernel)
theorem mw_167 : Cond.lays "ProvenLedger$Node" "ProvenLedger$Node" "length" "I" ∈ pl_tb := pl_mw 167 (by decide +kernel) (by decide +kernel)
theorem mw_179 : Cond.laysFinal "ProvenLedger$Tree" "ProvenLedger$Tree" "book" "LProvenLedger$Book;" ∈ pl_tb := pl_mw 179 (by decide +kernel) (by decide +kernel)
theorem mw_181 : Cond.laysFinal "ProvenLedger$Tree" "ProvenLedger$Tree" "hasher" "LProvenLedger$Hasher;" ∈ pl_tb := pl_mw 181 (by decide +kernel) (by decide +kernel)
theorem mw_183 : Cond.laysFinal "ProvenLedger$Tree" "ProvenLedger$Tree" "code" "LProvenLedger$Code;" ∈ pl_tb := pl_mw 183 (by decide +kernel) (by decide +kernel)
theorem mw_185 : Cond.laysFinal "ProvenLedger$Tree" "ProvenLedger$Tree" "pool" "[LProvenLedger$Node;" ∈ pl_tb := pl_mw 185 (by decide +kernel) (by decide +kernel)
theorem mw_187 : Cond.laysFinal "ProvenLedger$Tree" "ProvenLedger$Tree" "counts" "[I" ∈ pl_tb := pl_mw 187 (by decide +kernel) (by decide +kernel)
theorem mw_189 : Cond.laysFinal "ProvenLedger$Tree" "ProvenLedger$Tree" "root" "[I" ∈ pl_tb := pl_mw 189 (by decide +kernel) (by decide +kernel)
theorem mw_191 : Cond.lays "ProvenLedger$Tree" "ProvenLedger$Tree" "taken" "I" ∈ pl_tb := pl_mw 191 (by decide +kernel) (by decide +kernel)
theorem mw_193 : Cond.lays "ProvenLedger$Tree" "ProvenLedger$Tree" "top" "LProvenLedger$Node;" ∈ pl_tb := pl_mw 193 (by decide +kernel) (by decide +kernel)
theorem mw_195 : Cond.lays "ProvenLedger$Tree" "ProvenLedger$Tree" "old" "Z" ∈ pl_tb := pl_mw 195 (by decide +kernel) (by decide +kernel)
theorem mw_209 : Cond.laysFinal "ProvenLedger$Proof" "ProvenLedger$Proof" "rows" "[[I" ∈ pl_tb := pl_mw 209 (by decide +kernel) (by decide +kernel)
theorem mw_211 : Cond.laysFinal "ProvenLedger$Proof" "ProvenLedger$Proof" "lengths" "[I" ∈ pl_tb := pl_mw 211 (by decide +kernel) (by decide +kernel)
theorem mw_213 : Cond.lays "ProvenLedger$Proof" "ProvenLedger$Proof" "count" "I" ∈ pl_tb := pl_mw 213 (by decide +kernel) (by decide +kernel)
theorem mw_237 : Cond.laysFinal "ProvenLedger$Way" "ProvenLedger$Way" "proof" "LProvenLedger$Proof;" ∈ pl_tb := pl_mw 237 (by decide +kernel) (by decide +kernel)
theorem mw_239 : Cond.laysFinal "ProvenLedger$Way" "ProvenLedger$Way" "hasher" "LProvenLedger$Hasher;" ∈ pl_tb := pl_mw 239 (by decide +kernel) (by decide +kernel)
theorem mw_241 : Cond.lays "ProvenLedger$Way" "ProvenLedger$Way" "account" "I" ∈ pl_tb := pl_mw 241 (by decide +kernel) (by decide +kernel)
theorem mw_243 : Cond.lays "ProvenLedger$Way" "ProvenLedger$Way" "part" "I" ∈ pl_tb := pl_mw 243 (by decide +kernel) (by decide +kernel)
theorem mw_245 : Cond.lays "ProvenLedger$Way" "ProvenLedger$Way" "row" "[I" ∈ pl_tb := pl_mw 245 (by decide +kernel) (by decide +kernel)
theorem mw_247 : Cond.lays "ProvenLedger$Way" "ProvenLedger$Way" "rowLength" "I" ∈ pl_tb := pl_mw 247 (by decide +kernel) (by decide +kernel)
theorem mw_249 : Cond.lays "ProvenLedger$Way" "ProvenLedger$Way" "place" "I" ∈ pl_tb := pl_mw 249 (by decide +kernel) (by decide +kernel)
theorem mw_251 : Cond.lays "ProvenLedger$Way" "ProvenLedger$Way" "depth" "I" ∈ pl_tb := pl_mw 251 (by decide +kernel) (by decide +kernel)
theorem mw_253 : Cond.lays "ProvenLedger$Way" "ProvenLedger$Way" "found" "Z" ∈ pl_tb := pl_mw 253 (by decide +kernel) (by decide +kernel)
theorem mw_255 : Cond.lays "ProvenLedger$Way" "ProvenLedger$Way" "nonce" "J" ∈ pl_tb := pl_mw 255 (by decide +kernel) (by decide +kernel)
theorem mw_257 : Cond.lays "ProvenLedger$Way" "ProvenLedger$Way" "balance" "J" ∈ pl_tb := pl_mw 257 (by decide +kernel) (by decide +kernel)
theorem mw_267 : Cond.laysFinal "ProvenLedger" "ProvenLedger" "book" "LProvenLedger$Book;" ∈ pl_tb := pl_mw 267 (by decide +kernel) (by decide +kernel)
theorem mw_269 : Cond.laysFinal "ProvenLedger" "ProvenLedger" "hasher" "LProvenLedger$Hasher;" ∈ pl_tb := pl_mw 269 (by decide +kernel) (by decide +kernel)
theorem mw_271 : Cond.laysFinal "ProvenLedger" "ProvenLedger" "tree" "LProvenLedger$Tree;" ∈ pl_tb := pl_mw 271 (by decide +kernel) (by decide +kernel)
theorem mw_273 : Cond.laysFinal "ProvenLedger" "ProvenLedger" "proof" "LProvenLedger$Proof;" ∈ pl_tb := pl_mw 273 (by decide +kernel) (by decide +kernel)
theorem mw_275 : Cond.laysFinal "ProvenLedger" "ProvenLedger" "way" "LProvenLedger$Way;" ∈ pl_tb := pl_mw 275 (by decide +kernel) (by decide +kernel)
theorem mw_277 : Cond.lays "ProvenLedger" "ProvenLedger" "feeAccount" "I" ∈ pl_tb := pl_mw 277 (by decide +kernel) (by decide +kernel)
theorem mw_279 : Cond.lays "ProvenLedger" "ProvenLedger" "latestCheck" "I" ∈ pl_tb := pl_mw 279 (by decide +kernel) (by decide +kernel)
theorem mw_731 : Cond.lays "ProvenLedgerModel" "ProvenLedgerModel" "many" "I" ∈ pl_tb := pl_mw 731 (by decide +kernel) (by decide +kernel)
theorem mw_733 : Cond.lays "ProvenLedgerModel" "ProvenLedgerModel" "number" "[I" ∈ pl_tb := pl_mw 733 (by decide +kernel) (by decide +kernel)
theorem mw_735 : Cond.lays "ProvenLedgerModel" "ProvenLedgerModel" "nonces" "[I" ∈ pl_tb := pl_mw 735 (by decide +kernel) (by decide +kernel)
theorem mw_737 : Cond.lays "ProvenLedgerModel" "ProvenLedgerModel" "balances" "[J" ∈ pl_tb := pl_mw 737 (by decide +kernel) (by decide +kernel)
theorem mw_739 : Cond.lays "ProvenLedgerModel" "ProvenLedgerModel" "fees" "I" ∈ pl_tb := pl_mw 739 (by decide +kernel) (by decide +kernel)
theorem mw_741 : Cond.lays "ProvenLedgerModel" "ProvenLedgerModel" "worked" "Z" ∈ pl_tb := pl_mw 741 (by decide +kernel) (by decide +kernel)
theorem mw_743 : Cond.lays "ProvenLedgerModel" "ProvenLedgerModel" "refer" "[I" ∈ pl_tb := pl_mw 743 (by decide +kernel) (by decide +kernel)
theorem mw_745 : Cond.lays "ProvenLedgerModel" "ProvenLedgerModel" "referLength" "[I" ∈ pl_tb := pl_mw 745 (by decide +kernel) (by decide +kernel)
theorem mw_747 : Cond.lays "ProvenLedgerModel" "ProvenLedgerModel" "byHash" "[Z" ∈ pl_tb := pl_mw 747 (by decide +kernel) (by decide +kernel)
theorem mw_749 : Cond.lays "ProvenLedgerModel" "ProvenLedgerModel" "used" "[Z" ∈ pl_tb := pl_mw 749 (by decide +kernel) (by decide +kernel)
theorem mw_751 : Cond.lays "ProvenLedgerModel" "ProvenLedgerModel" "bodyLength" "I" ∈ pl_tb := pl_mw 751 (by decide +kernel) (by decide +kernel)
theorem mw_753 : Cond.lays "ProvenLedgerModel" "ProvenLedgerModel" "body" "[I" ∈ pl_tb := pl_mw 753 (by decide +kernel) (by decide +kernel)
theorem mw_755 : Cond.lays "ProvenLedgerModel" "ProvenLedgerModel" "codeLength" "I" ∈ pl_tb := pl_mw 755 (by decide +kernel) (by decide +kernel)
theorem mw_757 : Cond.lays "ProvenLedgerModel" "ProvenLedgerModel" "code" "[I" ∈ pl_tb := pl_mw 757 (by decide +kernel) (by decide +kernel)
theorem mw_759 : Cond.lays "ProvenLedgerModel" "ProvenLedgerModel" "packed" "[I" ∈ pl_tb := pl_mw 759 (by decide +kernel) (by decide +kernel)
theorem mw_761 : Cond.lays "ProvenLedgerModel" "ProvenLedgerModel" "value" "[I" ∈ pl_tb := pl_mw 761 (by decide +kernel) (by decide +kernel)
theorem mw_763 : Cond.lays "ProvenLedgerModel" "ProvenLedgerModel" "parts" "I" ∈ pl_tb := pl_mw 763 (by decide +kernel) (by decide +kernel)
theorem mw_765 : Cond.lays "ProvenLedgerModel" "ProvenLedgerModel" "partLength" "[I" ∈ pl_tb := pl_mw 765 (by decide +kernel) (by decide +kernel)
theorem mw_767 : Cond.lays "ProvenLedgerModel" "ProvenLedgerModel" "part" "[I" ∈ pl_tb := pl_mw 767 (by decide +kernel) (by decide +kernel)
theorem mw_769 : Cond.lays "ProvenLedgerModel" "ProvenLedgerModel" "provenNonce" "J" ∈ pl_tb := pl_mw 769 (by decide +kernel) (by decide +kernel)
theorem mw_771 : Cond.lays "ProvenLedgerModel" "ProvenLedgerModel" "provenBalance" "J" ∈ pl_tb := pl_mw 771 (by decide +kernel) (by decide +kernel)
theorem mw_773 : Cond.lays "ProvenLedgerModel" "ProvenLedgerModel" "word" "[J" ∈ pl_tb := pl_mw 773 (by decide +kernel) (by decide +kernel)
theorem mw_775 : Cond.lays "ProvenLedgerModel" "ProvenLedgerModel" "moved" "[J" ∈ pl_tb := pl_mw 775 (by decide +kernel) (by decide +kernel)
theorem mw_777 : Cond.lays "ProvenLedgerModel" "ProvenLedgerModel" "column" "[J" ∈ pl_tb := pl_mw 777 (by decide +kernel) (by decide +kernel)
theorem mw_779 : Cond.lays "ProvenLedgerModel" "ProvenLedgerModel" "distance" "[I" ∈ pl_tb := pl_mw 779 (by decide +kernel) (by decide +kernel)
theorem mw_781 : Cond.lays "ProvenLedgerModel" "ProvenLedgerModel" "constant" "[J" ∈ pl_tb := pl_mw 781 (by decide +kernel) (by decide +kernel)
theorem mw_783 : Cond.lays "ProvenLedgerModel" "ProvenLedgerModel" "padded" "[I" ∈ pl_tb := pl_mw 783 (by decide +kernel) (by decide +kernel)
theorem mw_785 : Cond.lays "ProvenLedgerModel" "ProvenLedgerModel" "hash" "[I" ∈ pl_tb := pl_mw 785 (by decide +kernel) (by decide +kernel)
theorem mw_787 : Cond.lays "ProvenLedgerModel" "ProvenLedgerModel" "root" "[I" ∈ pl_tb := pl_mw 787 (by decide +kernel) (by decide +kernel)
theorem mw_789 : Cond.lays "ProvenLedgerModel" "ProvenLedgerModel" "wayPart" "I" ∈ pl_tb := pl_mw 789 (by decide +kernel) (by decide +kernel)
theorem mw_791 : Cond.lays "ProvenLedgerModel" "ProvenLedgerModel" "wayPlace" "I" ∈ pl_tb := pl_mw 791 (by decide +kernel) (by decide +kernel)
theorem mw_793 : Cond.lays "ProvenLedgerModel" "ProvenLedgerModel" "wayDepth" "I" ∈ pl_tb := pl_mw 793 (by decide +kernel) (by decide +kernel)
theorem mw_795 : Cond.lays "ProvenLedgerModel" "ProvenLedgerModel" "wrong" "Z" ∈ pl_tb := pl_mw 795 (by decide +kernel) (by decide +kernel)
theorem mw_797 : Cond.lays "ProvenLedgerModel" "ProvenLedgerModel" "told" "I" ∈ pl_tb := pl_mw 797 (by decide +kernel) (by decide +kernel)
theorem in_B : ∀ w ∈ u_ws rn_B rt_B 4, w ∈ pl_tb := by
  intro w hw
  obtain ⟨k, hk, rfl⟩ := List.mem_map.mp hw
  have hk := List.mem_range.mp hk
  match k, hk with
  | 0, _ => exact mw_93
  | 1, _ => exact mw_95
  | 2, _ => exact mw_97
  | 3, _ => exact mw_99
  | k + 4, h => exact absurd h (by omega)
theorem in_C : ∀ w ∈ u_ws rn_C rt_C 2, w ∈ pl_tb := by
  intro w hw
  obtain ⟨k, hk, rfl⟩ := List.mem_map.mp hw
  have hk := List.mem_range.mp hk
  match k, hk with
  | 0, _ => exact mw_134
  | 1, _ => exact mw_136
  | k + 2, h => exact absurd h (by omega)
theorem in_H : ∀ w ∈ u_ws rn_H rt_H 3, w ∈ pl_tb := by
  intro w hw
  obtain ⟨k, hk, rfl⟩ := List.mem_map.mp hw
  have hk := List.mem_range.mp hk
  match k, hk with
  | 0, _ => exact mw_113
  | 1, _ => exact mw_115
  | 2, _ => exact mw_117
  | k + 3, h => exact absurd h (by omega)
theorem in_N : ∀ w ∈ u_ws rn_N rt_N 7, w ∈ pl_tb := by
  intro w hw
  obtain ⟨k, hk, rfl⟩ := List.mem_map.mp hw
  have hk := List.mem_range.mp hk
  match k, hk with
  | 0, _ => exact mw_155
  | 1, _ => exact mw_157
  | 2, _ => exact mw_159
  | 3, _ => exact mw_161
  | 4, _ => exact mw_163
  | 5, _ => exact mw_165
  | 6, _ => exact mw_167
  | k + 7, h => exact absurd h (by omega)
theorem in_P : ∀ w ∈ u_ws rn_P rt_P 3, w ∈ pl_tb := by
  intro w hw
  obtain ⟨k, hk, rfl⟩ := List.mem_map.mp hw
  have hk := List.mem_range.mp hk
  match k, hk with
  | 0, _ => exact mw_209
  | 1, _ => exact mw_211
  | 2, _ => exact mw_213
  | k + 3, h => exact absurd h (by omega)
theorem in_T : ∀ w ∈ u_ws rn_T rt_T 9, w ∈ pl_tb := by
  intro w hw
  obtain ⟨k, hk, rfl⟩ := List.mem_map.mp hw
  have hk := List.mem_range.mp hk
  match k, hk with
  | 0, _ => exact mw_179
  | 1, _ => exact mw_181
  | 2, _ => exact mw_183
  | 3, _ => exact mw_185
  | 4, _ => exact mw_187
  | 5, _ => exact mw_189
  | 6, _ => exact mw_191
  | 7, _ => exact mw_193
  | 8, _ => exact mw_195
  | k + 9, h => exact absurd h (by omega)
theorem in_W : ∀ w ∈ u_ws rn_W rt_W 11, w ∈ pl_tb := by
  intro w hw
  obtain ⟨k, hk, rfl⟩ := List.mem_map.mp hw
  have hk := List.mem_range.mp hk
  match k, hk with
  | 0, _ => exact mw_237
  | 1, _ => exact mw_239
  | 2, _ => exact mw_241
  | 3, _ => exact mw_243
  | 4, _ => exact mw_245
  | 5, _ => exact mw_247
  | 6, _ => exact mw_249
  | 7, _ => exact mw_251
  | 8, _ => exact mw_253
  | 9, _ => exact mw_255
  | 10, _ => exact mw_257
  | k + 11, h => exact absurd h (by omega)
theorem in_L : ∀ w ∈ u_ws rn_L rt_L 7, w ∈ pl_tb := by
  intro w hw
  obtain ⟨k, hk, rfl⟩ := List.mem_map.mp hw
  have hk := List.mem_range.mp hk
  match k, hk with
  | 0, _ => exact mw_267
  | 1, _ => exact mw_269
  | 2, _ => exact mw_271
  | 3, _ => exact mw_273
  | 4, _ => exact mw_275
  | 5, _ => exact mw_277
  | 6, _ => exact mw_279
  | k + 7, h => exact absurd h (by omega)
theorem in_M : ∀ w ∈ u_ws rn_M rt_M 34, w ∈ pl_tb := by
  intro w hw
  obtain ⟨k, hk, rfl⟩ := List.mem_map.mp hw
  have hk := List.mem_range.mp hk
  match k, hk with
  | 0, _ => exact mw_731
  | 1, _ => exact mw_733
  | 2, _ => exact mw_735
  | 3, _ => exact mw_737
  | 4, _ => exact mw_739
  | 5, _ => exact mw_741
  | 6, _ => exact mw_743
  | 7, _ => exact mw_745
  | 8, _ => exact mw_747
  | 9, _ => exact mw_749
  | 10, _ => exact mw_751
  | 11, _ => exact mw_753
  | 12, _ => exact mw_755
  | 13, _ => exact mw_757
  | 14, _ => exact mw_759
  | 15, _ => exact mw_761
  | 16, _ => exact mw_763
  | 17, _ => exact mw_765
  | 18, _ => exact mw_767
  | 19, _ => exact mw_769
  | 20, _ => exact mw_771
  | 21, _ => exact mw_773
  | 22, _ => exact mw_775
  | 23, _ => exact mw_777
  | 24, _ => exact mw_779
  | 25, _ => exact mw_781
  | 26, _ => exact mw_783
  | 27, _ => exact mw_785
  | 28, _ => exact mw_787
  | 29, _ => exact mw_789
  | 30, _ => exact mw_791
  | 31, _ => exact mw_793
  | 32, _ => exact mw_795
  | 33, _ => exact mw_797
  | k + 34, h => exact absurd h (by omega)
end
section
/-! Worlds by a function of addresses: every cell that the law, the ledger and the reference have made lies in one world; its numbers of array kinds are turned into the tables' numbers by dA. -/
abbrev pl_H : Type := Nat → va_E
def pl_dum : va_E := .inr (1000, [])
def pl_E (dA : Nat → ClassId) (e : va_E) : va_E := match e with
  | .inl (t, x) => .inl (dA t, x)
  | .inr o => .inr o
def pl_wd (D : va_G) (cl : List vw_C) (dA : Nat → ClassId) (b n : Nat) (f : pl_H) (H : Heap) : Prop :=
  H.size = n ∧ b ≤ n ∧ (∀ a : Nat, b ≤ a → a < n → va_at D cl (a, pl_E dA (f a)) H) ∧ ∀ a : Nat, (a < b ∨ n ≤ a) → f a = pl_dum
def pl_A (b : Nat) : Nat → Prop := fun q => b ≤ q
theorem pl_in {D : va_G} {cl : List vw_C} {dA : Nat → ClassId} {b n : Nat} {f : pl_H} {H : Heap} (w : pl_wd D cl dA b n f H) {a : Nat} (h : f a ≠ pl_dum) : b ≤ a ∧ a < n := by
  by_cases h1 : b ≤ a
  · by_cases h2 : a < n
    · exact ⟨h1, h2⟩
    · exact absurd (w.2.2.2 a (Or.inr (by omega))) h
  · exact absurd (w.2.2.2 a (Or.inl (by omega))) h
theorem pl_ne_l {t : ClassId} {x : vp_A} : (Sum.inl (t, x) : va_E) ≠ pl_dum := fun h => by cases h
theorem pl_ne_r {ci : Nat} {fs : List Value} (h : ci ≠ 1000) : (Sum.inr (ci, fs) : va_E) ≠ pl_dum := fun q => by
  have q2 := Sum.inr.inj q
  exact h (congrArg Prod.fst q2)
theorem pl_arr {D : va_G} {cl : List vw_C} {dA : Nat → ClassId} {b n : Nat} {f : pl_H} {H : Heap} (w : pl_wd D cl dA b n f H) {a t : Nat} {x : vp_A} (h : f a = .inl (t, x)) : (b ≤ a ∧ a < n) ∧ H[a]? = some (vp_cell (dA t) x) := by
  have hi := pl_in w (a := a) (by rw [h]; exact pl_ne_l)
  have h1 := w.2.2.1 a hi.1 hi.2
  rw [h] at h1
  exact ⟨hi, h1⟩
theorem pl_obj {D : va_G} {cl : List vw_C} {dA : Nat → ClassId} {b n : Nat} {f : pl_H} {H : Heap} (w : pl_wd D cl dA b n f H) {a ci : Nat} {fs : List Value} (hci : ci ≠ 1000) (h : f a = .inr (ci, fs)) : (b ≤ a ∧ a < n) ∧ va_at D cl (a, .inr (ci, fs)) H := by
  have hi := pl_in w (a := a) (by rw [h]; exact pl_ne_r hci)
  have h1 := w.2.2.1 a hi.1 hi.2
  rw [h] at h1
  exact ⟨hi, h1⟩
theorem pl_set {D : va_G} {cl : List vw_C} {dA : Nat → ClassId} {b n : Nat} {f : pl_H} {H H1 : Heap} (w : pl_wd D cl dA b n f H) {a : Nat} (ha : b ≤ a ∧ a < n) {e : va_E} (he : va_at D cl (a, pl_E dA e) H1) (z : H1.size = H.size) (oq : ∀ q : Nat, q ≠ a → H1[q]? = H[q]?) : pl_wd D cl dA b n (va_up f a e) H1 := by
  refine ⟨z.trans w.1, w.2.1, fun q h1 h2 => ?_, fun q hq => ?_⟩
  · by_cases hqa : q = a
    · subst hqa
      rw [va_up_self]
      exact he
    · rw [va_up_ne _ _ hqa]
      exact (w.2.2.1 q h1 h2).kept (oq q hqa)
  · have hqa : q ≠ a := by omega
    rw [va_up_ne _ _ hqa]
    exact w.2.2.2 q hq
theorem pl_push {D : va_G} {cl : List vw_C} {dA : Nat → ClassId} {b n : Nat} {f : pl_H} {H H1 : Heap} (w : pl_wd D cl dA b n f H) {e : va_E} (he : va_at D cl (n, pl_E dA e) H1) (z : H1.size = n + 1) (oq : ∀ q : Nat, q < n → H1[q]? = H[q]?) : pl_wd D cl dA b (n + 1) (va_up f n e) H1 := by
  have hb := w.2.1
  refine ⟨z, by omega, fun q h1 h2 => ?_, fun q hq => ?_⟩
  · by_cases hqa : q = n
    · subst hqa
      rw [va_up_self]
      exact he
    · rw [va_up_ne _ _ hqa]
      exact (w.2.2.1 q h1 (by omega)).kept (oq q (by omega))
  · have hqa : q ≠ n := by omega
    rw [va_up_ne _ _ hqa]
    exact w.2.2.2 q (by omega)
-- reads and writes, as functions
def pl_vI (v : Value) : Option Int32 := match v with
  | .int x => some x
  | _ => none
def pl_vL (v : Value) : Option Int64 := match v with
  | .long x => some x
  | _ => none
def pl_vR (v : Value) : Option Nat := match v with
  | .ref x => some x
  | _ => none
def pl_vQ (v : Value) : Option (Option Nat) := match v with
  | .ref x => some (some x)
  | .null => some none
  | _ => none
theorem pl_vI_e {v : Value} {x : Int32} (h : pl_vI v = some x) : v = .int x := by
  cases v <;> simp [pl_vI] at h
  rw [h]
theorem pl_vL_e {v : Value} {x : Int64} (h : pl_vL v = some x) : v = .long x := by
  cases v <;> simp [pl_vL] at h
  rw [h]
theorem pl_vR_e {v : Value} {x : Nat} (h : pl_vR v = some x) : v = .ref x := by
  cases v <;> simp [pl_vR] at h
  rw [h]
theorem pl_vQ_e {v : Value} {x : Option Nat} (h : pl_vQ v = some x) : v = va_rf x := by
  cases v <;> simp [pl_vQ] at h <;> subst h <;> rfl
def pl_gV (f : pl_H) (a ci k : Nat) : Option Value := match f a with
  | .inr (c, fs) => if c = ci then fs[k]? else none
  | .inl _ => none
def pl_gI (f : pl_H) (a ci k : Nat) : Option Int32 := (pl_gV f a ci k).bind pl_vI
def pl_gL (f : pl_H) (a ci k : Nat) : Option Int64 := (pl_gV f a ci k).bind pl_vL
def pl_gR (f : pl_H) (a ci k : Nat) : Option Nat := (pl_gV f a ci k).bind pl_vR
def pl_gQ (f : pl_H) (a ci k : Nat) : Option (Option Nat) := (pl_gV f a ci k).bind pl_vQ
def pl_pV (f : pl_H) (a ci k : Nat) (v : Value) : Option pl_H := match f a with
  | .inr (c, fs) => if c = ci ∧ k < fs.length then some (va_up f a (.inr (c, fs.set k v))) else none
  | .inl _ => none
def pl_is (f : pl_H) (a ci : Nat) : Option Unit := match f a with
  | .inr (c, _) => if c = ci then some () else none
  | .inl _ => none
def pl_ok (i : Int32) (n : Nat) : Bool := !(decide (i < 0) || decide (n ≤ i.toNatClampNeg))
theorem pl_ok_in {i : Int32} {n : Nat} (h : pl_ok i n = true) : vp_in i n := by
  unfold pl_ok at h
  unfold vp_in
  simpa using h
def pl_aI (f : pl_H) (a : Nat) (i : Int32) : Option Int32 := match f a with
  | .inl (0, n, .inl g) => if pl_ok i n = true then some (g i.toNatClampNeg) else none
  | _ => none
def pl_aL (f : pl_H) (a : Nat) (i : Int32) : Option Int64 := match f a with
  | .inl (1, n, .inr (.inl g)) => if pl_ok i n = true then some (g i.toNatClampNeg) else none
  | _ => none
def pl_aQ (f : pl_H) (t a : Nat) (i : Int32) : Option (Option Nat) := match f a with
  | .inl (t', n, .inr (.inr (.inr (.inr g)))) => if t' = t ∧ pl_ok i n = true then some (g i.toNatClampNeg) else none
  | _ => none
def pl_sI (f : pl_H) (a : Nat) (i x : Int32) : Option pl_H := match f a with
  | .inl (0, n, .inl g) => if pl_ok i n = true then some (va_up f a (.inl (0, n, .inl (upd g i.toNatClampNeg x)))) else none
  | _ => none
def pl_sL (f : pl_H) (a : Nat) (i : Int32) (x : Int64) : Option pl_H := match f a with
  | .inl (1, n, .inr (.inl g)) => if pl_ok i n = true then some (va_up f a (.inl (1, n, .inr (.inl (vp_updL g i.toNatClampNeg x))))) else none
  | _ => none
def pl_ln (f : pl_H) (a : Nat) : Option Int32 := match f a with
  | .inl (t, n, _) => if t < 5 then some (Int32.ofNat n) else none
  | _ => none
def pl_sQ (f : pl_H) (t ci a : Nat) (i : Int32) (r : Option Nat) : Option pl_H := match f a with
  | .inl (t', n, .inr (.inr (.inr (.inr g)))) => if t' = t ∧ pl_ok i n = true then (match r with
      | none => some (va_up f a (.inl (t', n, .inr (.inr (.inr (.inr (va_up g i.toNatClampNeg none)))))))
      | some v => (pl_is f v ci).bind fun _ => some (va_up f a (.inl (t', n, .inr (.inr (.inr (.inr (va_up g i.toNatClampNeg (some v)))))))) ) else none
  | _ => none
theorem pl_bd {α β : Type} {o : Option α} {g : α → Option β} {y : β} (h : o.bind g = some y) : ∃ x, o = some x ∧ g x = some y := by
  cases o with
  | none => cases h
  | some x => exact ⟨x, rfl, h⟩
theorem pl_gV_e {f : pl_H} {a ci k : Nat} {v : Value} (h : pl_gV f a ci k = some v) : ∃ fs, f a = .inr (ci, fs) ∧ fs[k]? = some v := by
  unfold pl_gV at h
  split at h
  · rename_i c fs hf
    split at h
    · rename_i hc
      subst hc
      exact ⟨fs, hf, h⟩
    · cases h
  · cases h
theorem pl_pV_e {f f' : pl_H} {a ci k : Nat} {v : Value} (h : pl_pV f a ci k v = some f') : ∃ fs, f a = .inr (ci, fs) ∧ k < fs.length ∧ f' = va_up f a (.inr (ci, fs.set k v)) := by
  unfold pl_pV at h
  split at h
  · rename_i c fs hf
    split at h
    · rename_i hc
      obtain ⟨hc, hk⟩ := hc
      subst hc
      cases h
      exact ⟨fs, hf, hk, rfl⟩
    · cases h
  · cases h
theorem pl_is_e {f : pl_H} {a ci : Nat} {u : Unit} (h : pl_is f a ci = some u) : ∃ fs, f a = .inr (ci, fs) := by
  unfold pl_is at h
  split at h
  · rename_i c fs hf
    split at h
    · rename_i hc
      subst hc
      exact ⟨fs, hf⟩
    · cases h
  · cases h
theorem pl_aI_e {f : pl_H} {a : Nat} {i x : Int32} (h : pl_aI f a i = some x) : ∃ (n : Nat) (g : Nat → Int32), f a = .inl (0, n, .inl g) ∧ vp_in i n ∧ x = g i.toNatClampNeg := by
  unfold pl_aI at h
  split at h
  · rename_i n g hf
    split at h
    · rename_i hc
      cases h
      exact ⟨n, g, hf, pl_ok_in hc, rfl⟩
    · cases h
  · cases h
theorem pl_aL_e {f : pl_H} {a : Nat} {i : Int32} {x : Int64} (h : pl_aL f a i = some x) : ∃ (n : Nat) (g : Nat → Int64), f a = .inl (1, n, .inr (.inl g)) ∧ vp_in i n ∧ x = g i.toNatClampNeg := by
  unfold pl_aL at h
  split at h
  · rename_i n g hf
    split at h
    · rename_i hc
      cases h
      exact ⟨n, g, hf, pl_ok_in hc, rfl⟩
    · cases h
  · cases h
theorem pl_aQ_e {f : pl_H} {t a : Nat} {i : Int32} {x : Option Nat} (h : pl_aQ f t a i = some x) : ∃ (n : Nat) (g : Nat → Option Nat), f a = .inl (t, n, .inr (.inr (.inr (.inr g)))) ∧ vp_in i n ∧ x = g i.toNatClampNeg := by
  unfold pl_aQ at h
  split at h
  · rename_i t' n g hf
    split at h
    · rename_i hc
      obtain ⟨hc, h2⟩ := hc
      subst hc
      cases h
      exact ⟨n, g, hf, pl_ok_in h2, rfl⟩
    · cases h
  · cases h
theorem pl_sI_e {f f' : pl_H} {a : Nat} {i x : Int32} (h : pl_sI f a i x = some f') : ∃ (n : Nat) (g : Nat → Int32), f a = .inl (0, n, .inl g) ∧ vp_in i n ∧ f' = va_up f a (.inl (0, n, .inl (upd g i.toNatClampNeg x))) := by
  unfold pl_sI at h
  split at h
  · rename_i n g hf
    split at h
    · rename_i hc
      cases h
      exact ⟨n, g, hf, pl_ok_in hc, rfl⟩
    · cases h
  · cases h
theorem pl_sL_e {f f' : pl_H} {a : Nat} {i : Int32} {x : Int64} (h : pl_sL f a i x = some f') : ∃ (n : Nat) (g : Nat → Int64), f a = .inl (1, n, .inr (.inl g)) ∧ vp_in i n ∧ f' = va_up f a (.inl (1, n, .inr (.inl (vp_updL g i.toNatClampNeg x)))) := by
  unfold pl_sL at h
  split at h
  · rename_i n g hf
    split at h
    · rename_i hc
      cases h
      exact ⟨n, g, hf, pl_ok_in hc, rfl⟩
    · cases h
  · cases h
theorem pl_sQ_e {f f' : pl_H} {t ci a : Nat} {i : Int32} {r : Option Nat} (h : pl_sQ f t ci a i r = some f') : ∃ (n : Nat) (g : Nat → Option Nat), f a = .inl (t, n, .inr (.inr (.inr (.inr g)))) ∧ vp_in i n ∧ f' = va_up f a (.inl (t, n, .inr (.inr (.inr (.inr (va_up g i.toNatClampNeg r)))))) ∧ ∀ v, r = some v → ∃ fs, f v = .inr (ci, fs) := by
  unfold pl_sQ at h
  split at h
  · rename_i t' n g hf
    split at h
    · rename_i hc
      obtain ⟨hc, h2⟩ := hc
      subst hc
      cases r with
      | none =>
        cases h
        exact ⟨n, g, hf, pl_ok_in h2, rfl, fun v hv => by cases hv⟩
      | some v =>
        obtain ⟨u, h3, h4⟩ := pl_bd h
        cases h4
        exact ⟨n, g, hf, pl_ok_in h2, rfl, fun v' hv => by cases hv; exact pl_is_e h3⟩
    · cases h
  · cases h
theorem pl_ln_e {f : pl_H} {a : Nat} {x : Int32} (h : pl_ln f a = some x) : ∃ (t : Nat) (y : vp_A), f a = .inl (t, y) ∧ t < 5 ∧ Int32.ofNat y.1 = x := by
  unfold pl_ln at h
  split at h
  · rename_i t n y hf
    split at h
    · rename_i ht
      cases h
      exact ⟨t, (n, y), hf, ht, rfl⟩
    · cases h
  · cases h
theorem pl_P1 {D : va_G} {cl : List vw_C} {q : Nat × va_E} {H : Heap} (h : va_at D cl q H) : va_P D cl [q] H := fun k x hx => by
  cases k with
  | zero => cases hx; exact h
  | succ k => cases hx
end
section
/-! What the tables and the class files' own static rows say, wherever a method begins. -/
def pl_t0 : List Int32 := [0, 10, 20, 5, 15, 16, 1, 11, 21, 6, 7, 17, 2, 12, 22, 23, 8, 18, 3, 13, 14, 24, 9, 19, 4]
def pl_t1 : List Int32 := [0, 1, 62, 28, 27, 36, 44, 6, 55, 20, 3, 10, 43, 25, 39, 41, 45, 15, 21, 8, 18, 2, 61, 56, 14]
def pl_t2 : List Int64 := [1, 32898, -9223372036854742902, -9223372034707259392, 32907, 2147483649, -9223372034707259263, -9223372036854743031, 138, 136, 2147516425, 2147483658, 2147516555, -9223372036854775669, -9223372036854742903, -9223372036854743037, -9223372036854743038, -9223372036854775680, 32778, -9223372034707292150, -9223372034707259263, -9223372036854742912, 2147483649, -9223372034707259384]
def pl_tys (dA : Nat → ClassId) : List (ClassId × FieldType) := [(dA 0, .int), (dA 1, .long), (dA 2, .object "ProvenLedger$Node"), (dA 3, .array .int), (dA 4, .boolean)]
def pl_st (tt : Nat → Nat) (b : Nat) (U : State) : Prop :=
  (va_Z "ProvenLedger$Hasher" "TARGETS" "[I" (.ref (tt 0)) (pl_A b) U U.heap ∧ va_T .int (tt 0) 25 (fun j => .int (pl_t0.getD j 0)) (pl_A b) U U.heap) ∧
  (va_Z "ProvenLedger$Hasher" "DISTANCES" "[I" (.ref (tt 1)) (pl_A b) U U.heap ∧ va_T .int (tt 1) 25 (fun j => .int (pl_t1.getD j 0)) (pl_A b) U U.heap) ∧
  (va_Z "ProvenLedger$Hasher" "ROUND_WORDS" "[J" (.ref (tt 2)) (pl_A b) U U.heap ∧ va_T .long (tt 2) 24 (fun j => .long (pl_t2.getD j 0)) (pl_A b) U U.heap)
def pl_nw (U : State) : Prop :=
  va_Nw (.fieldLinkNest "ProvenLedger$Tree" 154 "ProvenLedger$Node" "below" "[LProvenLedger$Node;" "ProvenLedger") U ∧
  va_Nw (.fieldLinkNest "ProvenLedger$Tree" 73 "ProvenLedger$Node" "begin" "I" "ProvenLedger") U ∧
  va_Nw (.fieldLinkNest "ProvenLedger$Tree" 76 "ProvenLedger$Node" "length" "I" "ProvenLedger") U ∧
  va_Nw (.methodLinkNest "ProvenLedger$Code" 34 ⟨"ProvenLedger", "digit", "(II)I"⟩ "ProvenLedger") U ∧
  va_Nw (.methodLinkNest "ProvenLedger$Tree" 121 ⟨"ProvenLedger", "digit", "(II)I"⟩ "ProvenLedger") U ∧
  va_Nw (.methodLinkNest "ProvenLedger$Node" 28 ⟨"ProvenLedger", "digit", "(II)I"⟩ "ProvenLedger") U ∧
  va_Nw (.methodLinkNest "ProvenLedger$Way" 118 ⟨"ProvenLedger", "digit", "(II)I"⟩ "ProvenLedger") U
def pl_K (D : va_G) (dA : Nat → ClassId) (tt : Nat → Nat) (b : Nat) (U : State) : Prop := va_K D vwCl (pl_tys dA) U ∧ pl_st tt b U ∧ pl_nw U
theorem pl_K.moved {D : va_G} {dA : Nat → ClassId} {tt : Nat → Nat} {b : Nat} {s U : State} (hW : s.WarmedH U.vm) (hh : ∀ q : Nat, q < s.heap.size → ¬ pl_A b q → U.heap[q]? = s.heap[q]?) (h : pl_K D dA tt b s) : pl_K D dA tt b U := by
  obtain ⟨h1, ⟨⟨z0, t0⟩, ⟨z1, t1⟩, z2, t2⟩, n0, n1, n2, n3, n4, n5, n6⟩ := h
  have ha := hW.alike
  exact ⟨va_K.moved ha h1, ⟨⟨(z0.kept hh).moved ha, (t0.kept hh).moved ha⟩, ⟨(z1.kept hh).moved ha, (t1.kept hh).moved ha⟩, (z2.kept hh).moved ha, (t2.kept hh).moved ha⟩, n0.warmF hW, n1.warmF hW, n2.warmF hW, n3.warmM hW, n4.warmM hW, n5.warmM hW, n6.warmM hW⟩
end
section
/-! Rows: an instruction's step over the world that a function gives. C: what holds through a method's body. -/
def pl_N : Nat := 100000
def pl_C (p : Program) (s : State) (m : MethodId) (args : Array Value) (meth : Method) (c : Code) (cc : ByteArray) (nL : Nat) (own : String) (ret : Option FieldType) (nm : String) (D : va_G) (dA : Nat → ClassId) (tt : Nat → Nat) (b : Nat) : Prop :=
  p.tables.exec = Jvm.exec ∧ c.code = cc ∧ c.maxLocals = nL ∧ meth.sig.returnType = ret ∧ s.vm.findClass own = some m.cls ∧ meth.locks = false ∧ (∀ w ∈ pl_tb, w.before args s = true) ∧ meth.name = nm ∧ pl_K D dA tt b s
def pl_pre (D : va_G) (dA : Nat → ClassId) (tt : Nat → Nat) (b n : Nat) (f : pl_H) (U : State) : Prop := pl_wd D vwCl dA b n f U.heap ∧ pl_K D dA tt b U
def pl_qI (D : va_G) (dA : Nat → ClassId) (tt : Nat → Nat) (b n : Nat) (f : pl_H) (r : Int32) : Array Value → State → Outcome → State → Prop := va_Qi (fun (r' : Int32) (_ : Unit) => r' = r) (fun _ t => pl_pre D dA tt b n f t) (pl_A b)
def pl_qL (D : va_G) (dA : Nat → ClassId) (tt : Nat → Nat) (b n : Nat) (f : pl_H) (r : Int64) : Array Value → State → Outcome → State → Prop := va_Ql (fun (r' : Int64) (_ : Unit) => r' = r) (fun _ t => pl_pre D dA tt b n f t) (pl_A b)
def pl_qV (D : va_G) (dA : Nat → ClassId) (tt : Nat → Nat) (b n : Nat) (f : pl_H) : Array Value → State → Outcome → State → Prop := va_Qv (fun (_ : Unit) => True) (fun _ t => pl_pre D dA tt b n f t) (pl_A b)
def pl_qQ (D : va_G) (dA : Nat → ClassId) (tt : Nat → Nat) (b n : Nat) (f : pl_H) (r : Option Nat) : Array Value → State → Outcome → State → Prop := va_Qq (fun (r' : Option Nat) (_ : Unit) => r' = r) (fun _ t => pl_pre D dA tt b n f t) (pl_A b)
theorem pl_cat (r : Option Nat) : (va_rf r).category = 1 := by cases r <;> rfl
section PLR
variable {p : Program} {l : Launch} {e : Env} {R : Room} {s : State} {m : MethodId} {args : Array Value} {below : List Frame} {meth : Method} {c : Code} {H : Heap} {locs : List Loc} {cells slots : Nat} {Q : State → Prop}
variable {cc : ByteArray} {nL : Nat} {own nm : String} {ret : Option FieldType} {pc : Nat} {ls : Array Slot} {rest : List Value} {D : va_G} {dA : Nat → ClassId} {tt : Nat → Nat} {b n a : Nat} {f f' : pl_H}
theorem pl_getV (C : pl_C p s m args meth c cc nL own ret nm D dA tt b) (w : pl_wd D vwCl dA b n f H) {Cn : String} {T : u_T} {N ci index : Nat} (hin : ∀ w ∈ u_ws Cn T N, w ∈ pl_tb) (hc : vwCl[ci]? = some (Cn, T, N)) (hci : ci ≠ 1000) (k : Nat) (hk : k < N) (hm : Cond.fieldLink own index (T k).1 (T k).2.1 (T k).2.2.1 ∈ pl_tb) {v : Value} (hv : pl_gV f a ci k = some v) (hdg : decode cc pc = .ok (.getfield index, 3))
    (kk : W p l e R s m args below meth c H locs cells slots Q (F0 m (pc + 3) ls (v :: rest))) : W p l e R s m args below meth c H locs cells slots Q (F0 m pc ls (.ref a :: rest)) := by
  obtain ⟨hx, hb, hml, hr, hown, hlk, hts, hnm, hK⟩ := C
  obtain ⟨fs, h1, h2⟩ := pl_gV_e hv
  exact va_get hx hb hts hin hown hK.1 (pl_P1 (pl_obj w hci h1).2) 0 rfl hc k hk (hts _ hm) (fun _ h => h) h2 hdg kk
theorem pl_getI (C : pl_C p s m args meth c cc nL own ret nm D dA tt b) (w : pl_wd D vwCl dA b n f H) {Cn : String} {T : u_T} {N ci index : Nat} (hin : ∀ w ∈ u_ws Cn T N, w ∈ pl_tb) (hc : vwCl[ci]? = some (Cn, T, N)) (hci : ci ≠ 1000) (k : Nat) (hk : k < N) (hm : Cond.fieldLink own index (T k).1 (T k).2.1 (T k).2.2.1 ∈ pl_tb) {x : Int32} (hv : pl_gI f a ci k = some x) (hdg : decode cc pc = .ok (.getfield index, 3))
    (kk : W p l e R s m args below meth c H locs cells slots Q (F0 m (pc + 3) ls (.int x :: rest))) : W p l e R s m args below meth c H locs cells slots Q (F0 m pc ls (.ref a :: rest)) := by
  obtain ⟨v, h1, h2⟩ := pl_bd hv
  have h3 := pl_vI_e h2
  subst h3
  exact pl_getV C w hin hc hci k hk hm h1 hdg kk
theorem pl_getL (C : pl_C p s m args meth c cc nL own ret nm D dA tt b) (w : pl_wd D vwCl dA b n f H) {Cn : String} {T : u_T} {N ci index : Nat} (hin : ∀ w ∈ u_ws Cn T N, w ∈ pl_tb) (hc : vwCl[ci]? = some (Cn, T, N)) (hci : ci ≠ 1000) (k : Nat) (hk : k < N) (hm : Cond.fieldLink own index (T k).1 (T k).2.1 (T k).2.2.1 ∈ pl_tb) {x : Int64} (hv : pl_gL f a ci k = some x) (hdg : decode cc pc = .ok (.getfield index, 3))
    (kk : W p l e R s m args below meth c H locs cells slots Q (F0 m (pc + 3) ls (.long x :: rest))) : W p l e R s m args below meth c H locs cells slots Q (F0 m pc ls (.ref a :: rest)) := by
  obtain ⟨v, h1, h2⟩ := pl_bd hv
  have h3 := pl_vL_e h2
  subst h3
  exact pl_getV C w hin hc hci k hk hm h1 hdg kk
theorem pl_getR (C : pl_C p s m args meth c cc nL own ret nm D dA tt b) (w : pl_wd D vwCl dA b n f H) {Cn : String} {T : u_T} {N ci index : Nat} (hin : ∀ w ∈ u_ws Cn T N, w ∈ pl_tb) (hc : vwCl[ci]? = some (Cn, T, N)) (hci : ci ≠ 1000) (k : Nat) (hk : k < N) (hm : Cond.fieldLink own index (T k).1 (T k).2.1 (T k).2.2.1 ∈ pl_tb) {x : Nat} (hv : pl_gR f a ci k = some x) (hdg : decode cc pc = .ok (.getfield index, 3))
    (kk : W p l e R s m args below meth c H locs cells slots Q (F0 m (pc + 3) ls (.ref x :: rest))) : W p l e R s m args below meth c H locs cells slots Q (F0 m pc ls (.ref a :: rest)) := by
  obtain ⟨v, h1, h2⟩ := pl_bd hv
  have h3 := pl_vR_e h2
  subst h3
  exact pl_getV C w hin hc hci k hk hm h1 hdg kk
theorem pl_put (C : pl_C p s m args meth c cc nL own ret nm D dA tt b) (w : pl_wd D vwCl dA b n f H) (hS0 : va_S (pl_A b) s.heap H locs) {Cn : String} {T : u_T} {N ci index : Nat} (hin : ∀ w ∈ u_ws Cn T N, w ∈ pl_tb) (hc : vwCl[ci]? = some (Cn, T, N)) (hci : ci ≠ 1000) {ty0 : Nat → FieldType} (hty : ∀ k, k < N → parseFieldDescriptor (T k).2.2.1 = some (ty0 k)) (hnm : ∀ a, a < N → ∀ b, b < N → a ≠ b → (T a).2.1 ≠ (T b).2.1) (k : Nat) (hk : k < N) (hm : Cond.fieldLink own index (T k).1 (T k).2.1 (T k).2.2.1 ∈ pl_tb) {v : Value} (hfin : (T k).2.2.2 = false) (hn : narrow (ty0 k) v = v) (hfit : fits (ty0 k) v = true) (hv : pl_pV f a ci k v = some f') (hdg : decode cc pc = .ok (.putfield index, 3))
    (kk : ∀ (H : Heap) (locs : List Loc), pl_wd D vwCl dA b n f' H → va_S (pl_A b) s.heap H locs → W p l e R s m args below meth c H locs cells slots Q (F0 m (pc + 3) ls rest)) : W p l e R s m args below meth c H locs cells slots Q (F0 m pc ls (v :: .ref a :: rest)) := by
  obtain ⟨hx, hb, hml, hr, hown, hlk, hts, hnm', hK0⟩ := C
  have hK := hK0.1
  obtain ⟨fs, h1, hl, rfl⟩ := pl_pV_e hv
  obtain ⟨hi0, r, hr1, cell, q1, q2, q3, q4⟩ := pl_obj w hci h1
  have hap := va_apart (own := own) hts hin ty0 hty hnm hK hc
  have hr : r = (Cn, T, N) := Option.some.inj (hr1.symm.trans hc)
  subst hr
  obtain ⟨hS, hfc, kC, hkC, hkind⟩ := hK.1 ci _ hc
  obtain ⟨cf, kf, fi, fd, hi, hsl⟩ := hS k hk
  have hlay := hts _ (hin _ (u_in_lay hk))
  unfold u_lay at hlay
  rw [if_neg (by rw [hfin]; decide)] at hlay
  have hst := (u_facts hfc hkC (u_lays hts hin hk) hi).1
  have h6 := u_store hfc hkC hkind hlay hi (hty k hk) hn hfit
  refine W.putK hx hb (f := fd) ⟨hown, hts _ hm, ⟨_, _, _, hi⟩, hst⟩ (by rw [q2]; exact h6) q1 q3 (by rw [hsl]; exact k2_hasslot (q4 k hk)) rfl rfl hdg fun H' e1 e2 e3 => ?_
  rw [hsl] at e1 ⊢
  exact kk H' _ (pl_set w hi0 (e := .inr (ci, fs.set k v)) ⟨_, hc, t_OB.to (V := updV (vp_V fs) k v) ⟨_, e1, q2, q3, t_set q4 hap hk v⟩ (fun j _ => vp_updV_set hl v j)⟩ e2 e3) (hS0.put e2 e3 hi0.1)
theorem pl_putF (C : pl_C p s m args meth c cc nL own ret "<init>" D dA tt b) (w : pl_wd D vwCl dA b n f H) (hS0 : va_S (pl_A b) s.heap H locs) {Cn : String} {T : u_T} {N ci index : Nat} (hin : ∀ w ∈ u_ws Cn T N, w ∈ pl_tb) (hc : vwCl[ci]? = some (Cn, T, N)) (hci : ci ≠ 1000) {ty0 : Nat → FieldType} (hty : ∀ k, k < N → parseFieldDescriptor (T k).2.2.1 = some (ty0 k)) (hnm : ∀ a, a < N → ∀ b, b < N → a ≠ b → (T a).2.1 ≠ (T b).2.1) (k : Nat) (hk : k < N) (hm : Cond.fieldLink own index (T k).1 (T k).2.1 (T k).2.2.1 ∈ pl_tb) {v : Value} (hfin : (T k).2.2.2 = true) (hdecl : (T k).1 = own) (hn : narrow (ty0 k) v = v) (hfit : fits (ty0 k) v = true) (hv : pl_pV f a ci k v = some f') (hdg : decode cc pc = .ok (.putfield index, 3))
    (kk : ∀ (H : Heap) (locs : List Loc), pl_wd D vwCl dA b n f' H → va_S (pl_A b) s.heap H locs → W p l e R s m args below meth c H locs cells slots Q (F0 m (pc + 3) ls rest)) : W p l e R s m args below meth c H locs cells slots Q (F0 m pc ls (v :: .ref a :: rest)) := by
  obtain ⟨hx, hb, hml, hr, hown, hlk, hts, hnm', hK0⟩ := C
  have hK := hK0.1
  obtain ⟨fs, h1, hl, rfl⟩ := pl_pV_e hv
  obtain ⟨hi0, r, hr1, cell, q1, q2, q3, q4⟩ := pl_obj w hci h1
  have hap := va_apart (own := own) hts hin ty0 hty hnm hK hc
  have hr : r = (Cn, T, N) := Option.some.inj (hr1.symm.trans hc)
  subst hr
  obtain ⟨hS, hfc, kC, hkC, hkind⟩ := hK.1 ci _ hc
  obtain ⟨cf, kf, fi, fd, hi, hsl⟩ := hS k hk
  have hlay := hts _ (hin _ (u_in_lay hk))
  unfold u_lay at hlay
  rw [if_pos hfin] at hlay
  have hst := (u_facts hfc hkC (u_lays hts hin hk) hi).1
  have hcf : m.cls = cf := by
    obtain ⟨_, _, c', _, _, _, -, -, hf', -, -, -, hown2, -⟩ := Cond.laysFinal_spec hlay
    have e1 : c' = cf := by have := hi.symm.trans hf'; simp at this; exact this.1.symm
    rw [hdecl] at hown2
    rw [← e1]; exact Option.some.inj (hown.symm.trans hown2)
  have h6 := u_fits hfc hkC hkind (Or.inr hlay) hi (hty k hk) hn hfit
  refine W.putFinK hx hb hown (hts _ hm) hi hst hcf hnm' (by rw [q2]; exact h6) q1 q3 (by rw [hsl]; exact k2_hasslot (q4 k hk)) rfl rfl hdg fun H' e1 e2 e3 => ?_
  rw [hsl] at e1 ⊢
  exact kk H' _ (pl_set w hi0 (e := .inr (ci, fs.set k v)) ⟨_, hc, t_OB.to (V := updV (vp_V fs) k v) ⟨_, e1, q2, q3, t_set q4 hap hk v⟩ (fun j _ => vp_updV_set hl v j)⟩ e2 e3) (hS0.put e2 e3 hi0.1)
theorem pl_aldI (C : pl_C p s m args meth c cc nL own ret nm D dA tt b) (w : pl_wd D vwCl dA b n f H) {i x : Int32} (hv : pl_aI f a i = some x) (hdg : decode cc pc = .ok (.iaload, 1))
    (kk : W p l e R s m args below meth c H locs cells slots Q (F0 m (pc + 1) ls (.int x :: rest))) : W p l e R s m args below meth c H locs cells slots Q (F0 m pc ls (.int i :: .ref a :: rest)) := by
  obtain ⟨k, g, h1, h2, rfl⟩ := pl_aI_e hv
  exact va_iald C.1 C.2.1 C.2.2.2.2.2.2.2.2.1 (pl_P1 (q := (a, .inl (dA 0, k, .inl g))) (pl_arr w h1).2) 0 0 rfl rfl h2 hdg kk
theorem pl_aldL (C : pl_C p s m args meth c cc nL own ret nm D dA tt b) (w : pl_wd D vwCl dA b n f H) {i : Int32} {x : Int64} (hv : pl_aL f a i = some x) (hdg : decode cc pc = .ok (.laload, 1))
    (kk : W p l e R s m args below meth c H locs cells slots Q (F0 m (pc + 1) ls (.long x :: rest))) : W p l e R s m args below meth c H locs cells slots Q (F0 m pc ls (.int i :: .ref a :: rest)) := by
  obtain ⟨k, g, h1, h2, rfl⟩ := pl_aL_e hv
  exact va_lald C.1 C.2.1 C.2.2.2.2.2.2.2.2.1 (pl_P1 (q := (a, .inl (dA 1, k, .inr (.inl g)))) (pl_arr w h1).2) 0 1 rfl rfl h2 hdg kk
theorem pl_astI (C : pl_C p s m args meth c cc nL own ret nm D dA tt b) (w : pl_wd D vwCl dA b n f H) (hS : va_S (pl_A b) s.heap H locs) {i x : Int32} (hv : pl_sI f a i x = some f') (hdg : decode cc pc = .ok (.iastore, 1))
    (kk : ∀ (H : Heap) (locs : List Loc), pl_wd D vwCl dA b n f' H → va_S (pl_A b) s.heap H locs → W p l e R s m args below meth c H locs cells slots Q (F0 m (pc + 1) ls rest)) : W p l e R s m args below meth c H locs cells slots Q (F0 m pc ls (.int x :: .int i :: .ref a :: rest)) := by
  obtain ⟨k, g, h1, hin, rfl⟩ := pl_sI_e hv
  obtain ⟨hi0, hcell⟩ := pl_arr w h1
  have hK := C.2.2.2.2.2.2.2.2.1
  refine W.iast C.1 C.2.1 hcell ((hK.2 0 _ rfl).1 k (fun j => .int (g j))) (fun q => by cases q) (by show ¬ (i < 0 ∨ (arrV _ _ _).slots.size ≤ _); rw [arrV_size]; exact hin) rfl rfl hdg fun H1 e z oq => ?_
  refine kk H1 _ (pl_set w hi0 (e := .inl (0, k, .inl (upd g i.toNatClampNeg x))) ?_ z oq) (hS.put z oq hi0.1)
  show H1[a]? = some (vp_cell _ _)
  rw [e]
  rw [vp_cell_i, vp_cell_i, arrV_store]
  congr 2
  funext q
  by_cases hq : q = i.toNatClampNeg
  · subst hq
    simp [updV, upd]
  · simp [updV, upd, hq]
theorem pl_astL (C : pl_C p s m args meth c cc nL own ret nm D dA tt b) (w : pl_wd D vwCl dA b n f H) (hS : va_S (pl_A b) s.heap H locs) {i : Int32} {x : Int64} (hv : pl_sL f a i x = some f') (hdg : decode cc pc = .ok (.lastore, 1))
    (kk : ∀ (H : Heap) (locs : List Loc), pl_wd D vwCl dA b n f' H → va_S (pl_A b) s.heap H locs → W p l e R s m args below meth c H locs cells slots Q (F0 m (pc + 1) ls rest)) : W p l e R s m args below meth c H locs cells slots Q (F0 m pc ls (.long x :: .int i :: .ref a :: rest)) := by
  obtain ⟨k, g, h1, hin, rfl⟩ := pl_sL_e hv
  obtain ⟨hi0, hcell⟩ := pl_arr w h1
  have hK := C.2.2.2.2.2.2.2.2.1
  refine W.last C.1 C.2.1 hcell ((hK.2 1 _ rfl).1 k (fun j => .long (g j))) (fun q => by cases q) (by show ¬ (i < 0 ∨ (arrV _ _ _).slots.size ≤ _); rw [arrV_size]; exact hin) rfl rfl hdg fun H1 e z oq => ?_
  refine kk H1 _ (pl_set w hi0 (e := .inl (1, k, .inr (.inl (vp_updL g i.toNatClampNeg x)))) ?_ z oq) (hS.put z oq hi0.1)
  show H1[a]? = some (vp_cell _ _)
  rw [e]
  rw [vp_cell_l, vp_cell_l, arrV_store]
  congr 2
  funext q
  by_cases hq : q = i.toNatClampNeg
  · subst hq
    simp [updV, vp_updL]
  · simp [updV, vp_updL, hq]
theorem pl_aload_n (hx : p.tables.exec = Jvm.exec) (hb : c.code = cc) {k : Fin 4} {i : Nat} {r : Option Nat} (hdg : decode cc pc = .ok (.aload_n k, 1)) (hi : (k : Nat) = i) (hl : ls[i]? = some (.val (va_rf r)))
    (kk : W p l e R s m args below meth c H locs cells slots Q (F0 m (pc + 1) ls (va_rf r :: rest))) : W p l e R s m args below meth c H locs cells slots Q (F0 m pc ls rest) := by
  cases r with
  | none => exact lv_aload_nN hx hb hdg hi hl kk
  | some v => exact lv_aload_n hx hb hdg hi hl kk
theorem pl_aload (hx : p.tables.exec = Jvm.exec) (hb : c.code = cc) {i : Nat} {r : Option Nat} (hdg : decode cc pc = .ok (.aload i, 2)) (hl : ls[i]? = some (.val (va_rf r)))
    (kk : W p l e R s m args below meth c H locs cells slots Q (F0 m (pc + 2) ls (va_rf r :: rest))) : W p l e R s m args below meth c H locs cells slots Q (F0 m pc ls rest) := by
  cases r with
  | none => exact lv_aloadN hx hb hdg hl kk
  | some v => exact lv_aload hx hb hdg hl kk
theorem pl_astore_n (hx : p.tables.exec = Jvm.exec) (hb : c.code = cc) {k : Fin 4} {i nL : Nat} {r : Option Nat} {lv lv' : List (Nat × Value)} (hdg : decode cc pc = .ok (.astore_n k, 1)) (hi : (k : Nat) = i) (h : lv_has ls nL lv) (hn : i < nL) (hl : (i, va_rf r) :: lv.filter (fun q => !(q.1 == i) && !(q.1 + 1 == i && q.2.category == 2)) = lv')
    (kk : ∀ ls' : Array Slot, lv_has ls' nL lv' → W p l e R s m args below meth c H locs cells slots Q (F0 m (pc + 1) ls' rest)) : W p l e R s m args below meth c H locs cells slots Q (F0 m pc ls (va_rf r :: rest)) := by
  cases r with
  | none => exact lv_astore_nN hx hb hdg hi h hn hl kk
  | some v => exact lv_astore_n hx hb hdg hi h hn hl kk
theorem pl_astore (hx : p.tables.exec = Jvm.exec) (hb : c.code = cc) {i nL : Nat} {r : Option Nat} {lv lv' : List (Nat × Value)} (hdg : decode cc pc = .ok (.astore i, 2)) (h : lv_has ls nL lv) (hn : i < nL) (hl : (i, va_rf r) :: lv.filter (fun q => !(q.1 == i) && !(q.1 + 1 == i && q.2.category == 2)) = lv')
    (kk : ∀ ls' : Array Slot, lv_has ls' nL lv' → W p l e R s m args below meth c H locs cells slots Q (F0 m (pc + 2) ls' rest)) : W p l e R s m args below meth c H locs cells slots Q (F0 m pc ls (va_rf r :: rest)) := by
  cases r with
  | none => exact lv_astoreN hx hb hdg h hn hl kk
  | some v => exact lv_astore hx hb hdg h hn hl kk
theorem pl_iinc6 (hexec : p.tables.exec = Jvm.exec) (hb : c.code = cc) {i nL k : Nat} {n : Int} {x v : Int32} {lv lv' : List (Nat × Value)} (hdg : decode cc pc = .ok (.iinc i n, 6)) (h : lv_has ls nL lv) (hk : lv[k]? = some (i, .int x)) (hv : x + Int32.ofInt n = v) (hn : i < nL) (hl : (i, Value.int v) :: lv.filter (fun q => !(q.1 == i) && !(q.1 + 1 == i && q.2.category == 2)) = lv')
    (kk : ∀ ls' : Array Slot, lv_has ls' nL lv' → W p l e R s m args below meth c H locs cells slots Q (F0 m (pc + 6) ls' rest)) : W p l e R s m args below meth c H locs cells slots Q (F0 m pc ls rest) := by
  subst hv
  have hg := lv_at h k hk
  obtain ⟨ls', e', h'⟩ := lv_store1 (v := .int (x + Int32.ofInt n)) h hn rfl
  intro T hT X
  obtain ⟨t, a, b⟩ := kk ls' (hl ▸ h') T hT X
  refine ⟨t, ?_, b⟩
  jvm_step X.here [X.here.top, ↓top_set X.here.top, hexec, hb, hdg, hg, e']
  exact a
theorem pl_retI (C : pl_C p s m args meth c cc nL own (some .int) nm D dA tt b) (w : pl_wd D vwCl dA b n f H) (hS : va_S (pl_A b) s.heap H locs) {x r : Int32} (hF : some x = some r) (hdg : decode cc pc = .ok (.ireturn, 1)) : W p l e R s m args below meth c H locs cells slots (MQ below (pl_qI D dA tt b n f r) args s cells slots (pl_A b)) (F0 m pc ls [.int x]) := by
  cases hF
  obtain ⟨hx, hb, hml, hr, hown, hlk, hts, hnm, hK⟩ := C
  exact W.iret (v := x) hx hb hr (fun t ht hW => ⟨⟨x, (), rfl, rfl, by rw [ht]; exact w, pl_K.moved hW (fun q h1 h2 => by rw [ht]; exact hS.2.1 q h1 h2) hK⟩, hS.F ht⟩) hS.2.2 hdg hlk
theorem pl_retIw (C : pl_C p s m args meth c cc nL own (some .int) nm D dA tt b) (w : pl_wd D vwCl dA b n f H) (hS : va_S (pl_A b) s.heap H locs) {x r : Int32} (hF : some (x, f) = some (r, f')) (hdg : decode cc pc = .ok (.ireturn, 1)) : W p l e R s m args below meth c H locs cells slots (MQ below (pl_qI D dA tt b n f' r) args s cells slots (pl_A b)) (F0 m pc ls [.int x]) := by
  cases hF
  exact pl_retI C w hS rfl hdg
def pl_zb (x : Int32) : Bool := decide (narrow .boolean (.int x) = .int x)
def pl_z (x : Int32) : Option Int32 := if pl_zb x = true then some x else none
theorem pl_z_e {x r : Int32} (h : pl_z x = some r) : x = r ∧ narrow .boolean (.int x) = .int x := by
  unfold pl_z at h
  split at h
  · rename_i hz
    unfold pl_zb at hz
    cases h
    exact ⟨rfl, of_decide_eq_true hz⟩
  · cases h
theorem pl_retZ (C : pl_C p s m args meth c cc nL own (some .boolean) nm D dA tt b) (w : pl_wd D vwCl dA b n f H) (hS : va_S (pl_A b) s.heap H locs) {x r : Int32} (hF : pl_z x = some r) (hdg : decode cc pc = .ok (.ireturn, 1)) : W p l e R s m args below meth c H locs cells slots (MQ below (pl_qI D dA tt b n f r) args s cells slots (pl_A b)) (F0 m pc ls [.int x]) := by
  obtain ⟨rfl, hz⟩ := pl_z_e hF
  obtain ⟨hx, hb, hml, hr, hown, hlk, hts, hnm, hK⟩ := C
  exact W.zret (v := x) hx hb hr hz (fun t ht hW => ⟨⟨x, (), rfl, rfl, by rw [ht]; exact w, pl_K.moved hW (fun q h1 h2 => by rw [ht]; exact hS.2.1 q h1 h2) hK⟩, hS.F ht⟩) hS.2.2 hdg hlk
theorem pl_retZw (C : pl_C p s m args meth c cc nL own (some .boolean) nm D dA tt b) (w : pl_wd D vwCl dA b n f H) (hS : va_S (pl_A b) s.heap H locs) {x r : Int32} (hF : (pl_z x).bind (fun z => some (z, f)) = some (r, f')) (hdg : decode cc pc = .ok (.ireturn, 1)) : W p l e R s m args below meth c H locs cells slots (MQ below (pl_qI D dA tt b n f' r) args s cells slots (pl_A b)) (F0 m pc ls [.int x]) := by
  obtain ⟨z, h1, h2⟩ := pl_bd hF
  cases h2
  exact pl_retZ C w hS h1 hdg
theorem pl_retL (C : pl_C p s m args meth c cc nL own (some .long) nm D dA tt b) (w : pl_wd D vwCl dA b n f H) (hS : va_S (pl_A b) s.heap H locs) {x r : Int64} (hF : some x = some r) (hdg : decode cc pc = .ok (.lreturn, 1)) : W p l e R s m args below meth c H locs cells slots (MQ below (pl_qL D dA tt b n f r) args s cells slots (pl_A b)) (F0 m pc ls [.long x]) := by
  cases hF
  obtain ⟨hx, hb, hml, hr, hown, hlk, hts, hnm, hK⟩ := C
  exact W.lret (v := x) hx hb hr (fun t ht hW => ⟨⟨x, (), rfl, rfl, by rw [ht]; exact w, pl_K.moved hW (fun q h1 h2 => by rw [ht]; exact hS.2.1 q h1 h2) hK⟩, hS.F ht⟩) hS.2.2 hdg hlk
theorem pl_retLw (C : pl_C p s m args meth c cc nL own (some .long) nm D dA tt b) (w : pl_wd D vwCl dA b n f H) (hS : va_S (pl_A b) s.heap H locs) {x r : Int64} (hF : some (x, f) = some (r, f')) (hdg : decode cc pc = .ok (.lreturn, 1)) : W p l e R s m args below meth c H locs cells slots (MQ below (pl_qL D dA tt b n f' r) args s cells slots (pl_A b)) (F0 m pc ls [.long x]) := by
  cases hF
  exact pl_retL C w hS rfl hdg
theorem pl_retVw (C : pl_C p s m args meth c cc nL own none nm D dA tt b) (w : pl_wd D vwCl dA b n f H) (hS : va_S (pl_A b) s.heap H locs) (hF : some f = some f') (hdg : decode cc pc = .ok (.return_, 1)) : W p l e R s m args below meth c H locs cells slots (MQ below (pl_qV D dA tt b n f') args s cells slots (pl_A b)) (F0 m pc ls []) := by
  cases hF
  obtain ⟨hx, hb, hml, hr, hown, hlk, hts, hnm, hK⟩ := C
  exact W.vret hx hb hr (fun t ht hW => ⟨⟨(), rfl, trivial, by rw [ht]; exact w, pl_K.moved hW (fun q h1 h2 => by rw [ht]; exact hS.2.1 q h1 h2) hK⟩, hS.F ht⟩) hS.2.2 hdg hlk
theorem pl_retQ {rt : FieldType} (C : pl_C p s m args meth c cc nL own (some rt) nm D dA tt b) (w : pl_wd D vwCl dA b n f H) (hS : va_S (pl_A b) s.heap H locs) {v : Value} {x r : Option Nat} (hF : some x = some r) (hrt : (∃ n, rt = .object n) ∨ ∃ t, rt = .array t) (hv : v = va_rf x) (hdg : decode cc pc = .ok (.areturn, 1)) : W p l e R s m args below meth c H locs cells slots (MQ below (pl_qQ D dA tt b n f r) args s cells slots (pl_A b)) (F0 m pc ls [v]) := by
  cases hF
  subst hv
  obtain ⟨hx, hb, hml, hr, hown, hlk, hts, hnm, hK⟩ := C
  exact W.aret (v := va_rf x) hx hb hr hrt (va_rf_or x) (fun t ht hW => ⟨⟨x, (), rfl, rfl, by rw [ht]; exact w, pl_K.moved hW (fun q h1 h2 => by rw [ht]; exact hS.2.1 q h1 h2) hK⟩, hS.F ht⟩) hS.2.2 hdg hlk
theorem pl_retR {rt : FieldType} (C : pl_C p s m args meth c cc nL own (some rt) nm D dA tt b) (w : pl_wd D vwCl dA b n f H) (hS : va_S (pl_A b) s.heap H locs) {x r : Nat} (hF : some x = some r) (hrt : (∃ n, rt = .object n) ∨ ∃ t, rt = .array t) (hdg : decode cc pc = .ok (.areturn, 1)) : W p l e R s m args below meth c H locs cells slots (MQ below (pl_qQ D dA tt b n f (some r)) args s cells slots (pl_A b)) (F0 m pc ls [.ref x]) := by
  cases hF
  exact pl_retQ (x := some x) C w hS rfl hrt rfl hdg
theorem pl_retRw {rt : FieldType} (C : pl_C p s m args meth c cc nL own (some rt) nm D dA tt b) (w : pl_wd D vwCl dA b n f H) (hS : va_S (pl_A b) s.heap H locs) {x r : Nat} (hF : some (x, f) = some (r, f')) (hrt : (∃ n, rt = .object n) ∨ ∃ t, rt = .array t) (hdg : decode cc pc = .ok (.areturn, 1)) : W p l e R s m args below meth c H locs cells slots (MQ below (pl_qQ D dA tt b n f' (some r)) args s cells slots (pl_A b)) (F0 m pc ls [.ref x]) := by
  cases hF
  exact pl_retR C w hS rfl hrt hdg
-- behind a call
variable {st0 : List Value} {av : Array Value} {n' mc ms : Nat}
theorem pl_gi {r : Int32} (hr : va_Run p l e R s m args below meth c H locs cells slots mc ms (F0 m pc ls st0) rest (pl_qI D dA tt b n' f' r av) (pl_A b)) (hS : va_S (pl_A b) s.heap H locs)
    (kk : ∀ (H : Heap) (locs : List Loc), pl_wd D vwCl dA b n' f' H → va_S (pl_A b) s.heap H locs → W p l e R s m args below meth c H locs (cells + mc) (slots + ms) Q (F0 m (pc + 3) ls (.int r :: rest))) : W p l e R s m args below meth c H locs cells slots Q (F0 m pc ls st0) := by
  refine va_calli hr hS (fun q _ h => h) (fun q h => h) (fun r' u t H1 locs1 ht hvm hp hB hz hk hS1 => ?_)
  subst hp
  exact kk H1 locs1 (by rw [← ht]; exact hB.1) hS1
theorem pl_gl {r : Int64} (hr : va_Run p l e R s m args below meth c H locs cells slots mc ms (F0 m pc ls st0) rest (pl_qL D dA tt b n' f' r av) (pl_A b)) (hS : va_S (pl_A b) s.heap H locs)
    (kk : ∀ (H : Heap) (locs : List Loc), pl_wd D vwCl dA b n' f' H → va_S (pl_A b) s.heap H locs → W p l e R s m args below meth c H locs (cells + mc) (slots + ms) Q (F0 m (pc + 3) ls (.long r :: rest))) : W p l e R s m args below meth c H locs cells slots Q (F0 m pc ls st0) := by
  refine va_calll hr hS (fun q _ h => h) (fun q h => h) (fun r' u t H1 locs1 ht hvm hp hB hz hk hS1 => ?_)
  subst hp
  exact kk H1 locs1 (by rw [← ht]; exact hB.1) hS1
theorem pl_gv (hr : va_Run p l e R s m args below meth c H locs cells slots mc ms (F0 m pc ls st0) rest (pl_qV D dA tt b n' f' av) (pl_A b)) (hS : va_S (pl_A b) s.heap H locs)
    (kk : ∀ (H : Heap) (locs : List Loc), pl_wd D vwCl dA b n' f' H → va_S (pl_A b) s.heap H locs → W p l e R s m args below meth c H locs (cells + mc) (slots + ms) Q (F0 m (pc + 3) ls rest)) : W p l e R s m args below meth c H locs cells slots Q (F0 m pc ls st0) := by
  refine va_callv hr hS (fun q _ h => h) (fun q h => h) (fun u t H1 locs1 ht hvm hp hB hz hk hS1 => ?_)
  exact kk H1 locs1 (by rw [← ht]; exact hB.1) hS1
theorem pl_gq {r : Option Nat} (hr : va_Run p l e R s m args below meth c H locs cells slots mc ms (F0 m pc ls st0) rest (pl_qQ D dA tt b n' f' r av) (pl_A b)) (hS : va_S (pl_A b) s.heap H locs)
    (kk : ∀ (H : Heap) (locs : List Loc), pl_wd D vwCl dA b n' f' H → va_S (pl_A b) s.heap H locs → W p l e R s m args below meth c H locs (cells + mc) (slots + ms) Q (F0 m (pc + 3) ls (va_rf r :: rest))) : W p l e R s m args below meth c H locs cells slots Q (F0 m pc ls st0) := by
  refine va_callq hr hS (fun q _ h => h) (fun q h => h) (fun r' u t H1 locs1 ht hvm hp hB hz hk hS1 => ?_)
  subst hp
  exact kk H1 locs1 (by rw [← ht]; exact hB.1) hS1
theorem pl_gr {r : Nat} (hr : va_Run p l e R s m args below meth c H locs cells slots mc ms (F0 m pc ls st0) rest (pl_qQ D dA tt b n' f' (some r) av) (pl_A b)) (hS : va_S (pl_A b) s.heap H locs)
    (kk : ∀ (H : Heap) (locs : List Loc), pl_wd D vwCl dA b n' f' H → va_S (pl_A b) s.heap H locs → W p l e R s m args below meth c H locs (cells + mc) (slots + ms) Q (F0 m (pc + 3) ls (.ref r :: rest))) : W p l e R s m args below meth c H locs cells slots Q (F0 m pc ls st0) := pl_gq hr hS kk
theorem pl_blind {av : List Value} : FrameBlind (va_Pc av (pl_pre D dA tt b n f)) := fun a U g mk q => by
  obtain ⟨q0, q1, qK⟩ := q
  exact ⟨q0, q1, pl_K.moved (U := U.calling g mk a) (State.WarmedH.refl U) (fun _ _ _ => rfl) qK⟩
theorem pl_preU (C : pl_C p s m args meth c cc nL own ret nm D dA tt b) (w : pl_wd D vwCl dA b n f H) (hS : va_S (pl_A b) s.heap H locs) {av : List Value} : ∀ U : State, U.heap = H → s.WarmedH U.vm → va_Pc av (pl_pre D dA tt b n f) av.toArray U := fun U hU hW => ⟨rfl, by rw [hU]; exact w, pl_K.moved hW (fun q h1 h2 => by rw [hU]; exact hS.2.1 q h1 h2) C.2.2.2.2.2.2.2.2⟩
theorem pl_good {y : MethodName} {bytes : ByteArray} {maxL : Nat} {ret' : Option FieldType} (h : Cond.code y bytes maxL ret' ∈ pl_tb) : GoodIn pl_tb (Cond.code y bytes maxL ret' :: pl_tb) := by
  intro w hw
  rcases List.mem_cons.mp hw with rfl | hw
  · exact ⟨h, pl_gw _ h⟩
  · exact ⟨hw, pl_gw _ hw⟩
theorem pl_goodV {own Cn : String} {index : Nat} {y : MethodName} {bytes : ByteArray} {maxL : Nat} {ret' : Option FieldType} (h : Cond.code y bytes maxL ret' ∈ pl_tb) (m1 : Cond.methodLink own index y ∈ pl_tb) (m2 : Cond.instanceMethod y ∈ pl_tb) (m3 : Cond.selects Cn y y ∈ pl_tb) (m4 : Cond.initialized Cn ∈ pl_tb) : GoodIn pl_tb (wsV own index Cn y (Cond.code y bytes maxL ret' :: pl_tb)) := by
  intro w hw
  unfold wsV at hw
  rcases List.mem_append.mp hw with hw | hw
  · have h2 : w ∈ pl_tb := by
      rcases List.mem_cons.mp hw with rfl | hw
      · exact m1
      rcases List.mem_cons.mp hw with rfl | hw
      · exact m2
      rcases List.mem_cons.mp hw with rfl | hw
      · exact m3
      rcases List.mem_cons.mp hw with rfl | hw
      · exact m4
      cases hw
    exact ⟨h2, pl_gw _ h2⟩
  · exact pl_good h w hw
theorem pl_runV (C : pl_C p s m args meth c cc nL own ret nm D dA tt b) {y : MethodName} {bytes : ByteArray} {maxL index k ci N : Nat} {ret' : Option FieldType} {rm : Room} {Qc : Array Value → State → Outcome → State → Prop} {As : List Value} {Cn : String} {T : u_T} {u : Unit}
    (hM : Met l y (Cond.code y bytes maxL ret' :: pl_tb) rm (va_Pc (.ref a :: As) (pl_pre D dA tt b n f)) Qc mc ms (pl_A b)) (w : pl_wd D vwCl dA b n f H) (hS : va_S (pl_A b) s.heap H locs) (hrc : rm.cells = mc) (hrs : rm.slots = ms)
    (m1 : Cond.methodLink own index y ∈ pl_tb) (m2 : Cond.instanceMethod y ∈ pl_tb) (m3 : Cond.selects Cn y y ∈ pl_tb) (m4 : Cond.initialized Cn ∈ pl_tb) (m5 : Cond.code y bytes maxL ret' ∈ pl_tb)
    (hd : y.cls = Cn ∧ y.cls ≠ "java/lang/invoke/MethodHandle" ∧ y.cls ≠ "java/lang/invoke/VarHandle" ∧ (parseMethodDescriptor y.desc).map (fun d => d.parameters.length) = some k) (hR : rm.frames + 1 ≤ R.frames ∧ 8 + (maxL + 11) + rm.locals ≤ R.locals)
    (hi : pl_is f a ci = some u) (hc : vwCl[ci]? = some (Cn, T, N)) (hci : ci ≠ 1000) (hn : As.length = k) (hsize : ls.size = nL) (hW : (rest.map fun v => v.category).sum ≤ 8) (hf : cells + mc ≤ R.cells ∧ slots + ms ≤ R.slots) (hst : st0 = As.reverse ++ .ref a :: rest) (hdg : decode cc pc = .ok (.invokevirtual index, 3)) :
    va_Run p l e R s m args below meth c H locs cells slots mc ms (F0 m pc ls st0) rest (Qc (Value.ref a :: As).toArray) (pl_A b) := by
  obtain ⟨fs, h1⟩ := pl_is_e hi
  have hts := C.2.2.2.2.2.2.1
  have hKa := C.2.2.2.2.2.2.2.2.1
  exact va_runV ⟨C.1, C.2.1, C.2.2.1, C.2.2.2.2.1, hts⟩ hM (cwV k hts (pl_goodV m5 m1 m2 m3 m4) rfl hrc hrs hd hR) ⟨pl_blind, va_recv hKa (pl_P1 (pl_obj w hci h1).2) hc (q0 := 0) rfl, pl_preU C w hS⟩ rfl hn hsize hst (lv_room hW) hdg hf
theorem pl_runS (C : pl_C p s m args meth c cc nL own ret nm D dA tt b) {y : MethodName} {bytes : ByteArray} {maxL index k : Nat} {ret' : Option FieldType} {rm : Room} {Qc : Array Value → State → Outcome → State → Prop} {As : List Value}
    (hM : Met l y (Cond.code y bytes maxL ret' :: pl_tb) rm (va_Pc As (pl_pre D dA tt b n f)) Qc mc ms (pl_A b)) (w : pl_wd D vwCl dA b n f H) (hS : va_S (pl_A b) s.heap H locs) (hrc : rm.cells = mc) (hrs : rm.slots = ms)
    (m1 : Cond.methodLink own index y ∈ pl_tb) (m2 : Cond.static y ∈ pl_tb) (m4 : Cond.initialized y.cls ∈ pl_tb) (m5 : Cond.code y bytes maxL ret' ∈ pl_tb)
    (hd : y.cls ≠ "java/lang/invoke/MethodHandle" ∧ y.cls ≠ "java/lang/invoke/VarHandle" ∧ (parseMethodDescriptor y.desc).map (fun d => d.parameters.length) = some k) (hR : rm.frames + 1 ≤ R.frames ∧ 8 + (maxL + 11) + rm.locals ≤ R.locals)
    (hn : As.length = k) (hsize : ls.size = nL) (hW : (rest.map fun v => v.category).sum ≤ 8) (hf : cells + mc ≤ R.cells ∧ slots + ms ≤ R.slots) (hst : st0 = As.reverse ++ rest) (hdg : decode cc pc = .ok (.invokestatic index, 3)) :
    va_Run p l e R s m args below meth c H locs cells slots mc ms (F0 m pc ls st0) rest (Qc As.toArray) (pl_A b) := by
  have hts := C.2.2.2.2.2.2.1
  exact va_runS ⟨C.1, C.2.1, C.2.2.1, C.2.2.2.2.1, hts⟩ hM ⟨callB_of k hts (pl_good m5) rfl hrc hrs (hts _ m4) (hts _ m1) hd hR, hts _ m2⟩ ⟨pl_blind, pl_preU C w hS⟩ rfl hn hsize hst (lv_room hW) hdg hf
end PLR
end
section
/-! More rows: the static tables, arrays of references, of booleans, lengths, nest mates, the JDK's own. -/
def pl_tb0 (i : Int32) : Option Int32 := if pl_ok i 25 = true then some (pl_t0.getD i.toNatClampNeg 0) else none
def pl_tb1 (i : Int32) : Option Int32 := if pl_ok i 25 = true then some (pl_t1.getD i.toNatClampNeg 0) else none
def pl_tb2 (i : Int32) : Option Int64 := if pl_ok i 24 = true then some (pl_t2.getD i.toNatClampNeg 0) else none
def pl_tn2 : Int32 := 24
def pl_aZ (f : pl_H) (a : Nat) (i : Int32) : Option Int32 := match f a with
  | .inl (4, n, .inl g) => if pl_ok i n = true then some (g i.toNatClampNeg) else none
  | _ => none
def pl_sZ (f : pl_H) (a : Nat) (i x : Int32) : Option pl_H := match f a with
  | .inl (4, n, .inl g) => if pl_ok i n = true ∧ pl_zb x = true then some (va_up f a (.inl (4, n, .inl (upd g i.toNatClampNeg x)))) else none
  | _ => none
theorem pl_aZ_e {f : pl_H} {a : Nat} {i x : Int32} (h : pl_aZ f a i = some x) : ∃ (n : Nat) (g : Nat → Int32), f a = .inl (4, n, .inl g) ∧ vp_in i n ∧ x = g i.toNatClampNeg := by
  unfold pl_aZ at h
  split at h
  · rename_i n g hf
    split at h
    · rename_i hc
      cases h
      exact ⟨n, g, hf, pl_ok_in hc, rfl⟩
    · cases h
  · cases h
theorem pl_sZ_e {f f' : pl_H} {a : Nat} {i x : Int32} (h : pl_sZ f a i x = some f') : ∃ (n : Nat) (g : Nat → Int32), f a = .inl (4, n, .inl g) ∧ vp_in i n ∧ narrow .boolean (.int x) = .int x ∧ f' = va_up f a (.inl (4, n, .inl (upd g i.toNatClampNeg x))) := by
  unfold pl_sZ at h
  split at h
  · rename_i n g hf
    split at h
    · rename_i hc
      cases h
      exact ⟨n, g, hf, pl_ok_in hc.1, of_decide_eq_true hc.2, rfl⟩
    · cases h
  · cases h
section PLS
variable {p : Program} {l : Launch} {e : Env} {R : Room} {s : State} {m : MethodId} {args : Array Value} {below : List Frame} {meth : Method} {c : Code} {H : Heap} {locs : List Loc} {cells slots : Nat} {Q : State → Prop}
variable {cc : ByteArray} {nL : Nat} {own nm : String} {ret : Option FieldType} {pc : Nat} {ls : Array Slot} {rest : List Value} {D : va_G} {dA : Nat → ClassId} {tt : Nat → Nat} {b n a : Nat} {f f' : pl_H}
theorem pl_gets0 (C : pl_C p s m args meth c cc nL own ret nm D dA tt b) (hS : va_S (pl_A b) s.heap H locs) {index : Nat} (hm : Cond.fieldLink own index "ProvenLedger$Hasher" "TARGETS" "[I" ∈ pl_tb) (hdg : decode cc pc = .ok (.getstatic index, 3)) (kk : W p l e R s m args below meth c H locs cells slots Q (F0 m (pc + 3) ls (.ref (tt 0) :: rest))) : W p l e R s m args below meth c H locs cells slots Q (F0 m pc ls rest) :=
  va_gets C.1 C.2.1 C.2.2.2.2.2.2.2.2.2.1.1.1 hS C.2.2.2.2.1 (C.2.2.2.2.2.2.1 _ hm) (fun _ h => h) hdg kk
theorem pl_gets1 (C : pl_C p s m args meth c cc nL own ret nm D dA tt b) (hS : va_S (pl_A b) s.heap H locs) {index : Nat} (hm : Cond.fieldLink own index "ProvenLedger$Hasher" "DISTANCES" "[I" ∈ pl_tb) (hdg : decode cc pc = .ok (.getstatic index, 3)) (kk : W p l e R s m args below meth c H locs cells slots Q (F0 m (pc + 3) ls (.ref (tt 1) :: rest))) : W p l e R s m args below meth c H locs cells slots Q (F0 m pc ls rest) :=
  va_gets C.1 C.2.1 C.2.2.2.2.2.2.2.2.2.1.2.1.1 hS C.2.2.2.2.1 (C.2.2.2.2.2.2.1 _ hm) (fun _ h => h) hdg kk
theorem pl_gets2 (C : pl_C p s m args meth c cc nL own ret nm D dA tt b) (hS : va_S (pl_A b) s.heap H locs) {index : Nat} (hm : Cond.fieldLink own index "ProvenLedger$Hasher" "ROUND_WORDS" "[J" ∈ pl_tb) (hdg : decode cc pc = .ok (.getstatic index, 3)) (kk : W p l e R s m args below meth c H locs cells slots Q (F0 m (pc + 3) ls (.ref (tt 2) :: rest))) : W p l e R s m args below meth c H locs cells slots Q (F0 m pc ls rest) :=
  va_gets C.1 C.2.1 C.2.2.2.2.2.2.2.2.2.1.2.2.1 hS C.2.2.2.2.1 (C.2.2.2.2.2.2.1 _ hm) (fun _ h => h) hdg kk
theorem pl_if {α : Type} {q : Bool} {x y : α} (h : (if q = true then some x else none) = some y) : q = true ∧ x = y := by
  cases q with
  | false => cases h
  | true => cases h; exact ⟨rfl, rfl⟩
theorem pl_tld0 (C : pl_C p s m args meth c cc nL own ret nm D dA tt b) (hS : va_S (pl_A b) s.heap H locs) {i x : Int32} (hv : pl_tb0 i = some x) (hdg : decode cc pc = .ok (.iaload, 1)) (kk : W p l e R s m args below meth c H locs cells slots Q (F0 m (pc + 1) ls (.int x :: rest))) : W p l e R s m args below meth c H locs cells slots Q (F0 m pc ls (.int i :: .ref (tt 0) :: rest)) := by
  obtain ⟨h1, rfl⟩ := pl_if hv
  exact va_ti C.1 C.2.1 C.2.2.2.2.2.2.2.2.2.1.1.2 hS (pl_ok_in h1) rfl hdg kk
theorem pl_tld1 (C : pl_C p s m args meth c cc nL own ret nm D dA tt b) (hS : va_S (pl_A b) s.heap H locs) {i x : Int32} (hv : pl_tb1 i = some x) (hdg : decode cc pc = .ok (.iaload, 1)) (kk : W p l e R s m args below meth c H locs cells slots Q (F0 m (pc + 1) ls (.int x :: rest))) : W p l e R s m args below meth c H locs cells slots Q (F0 m pc ls (.int i :: .ref (tt 1) :: rest)) := by
  obtain ⟨h1, rfl⟩ := pl_if hv
  exact va_ti C.1 C.2.1 C.2.2.2.2.2.2.2.2.2.1.2.1.2 hS (pl_ok_in h1) rfl hdg kk
theorem pl_tld2 (C : pl_C p s m args meth c cc nL own ret nm D dA tt b) (hS : va_S (pl_A b) s.heap H locs) {i : Int32} {x : Int64} (hv : pl_tb2 i = some x) (hdg : decode cc pc = .ok (.laload, 1)) (kk : W p l e R s m args below meth c H locs cells slots Q (F0 m (pc + 1) ls (.long x :: rest))) : W p l e R s m args below meth c H locs cells slots Q (F0 m pc ls (.int i :: .ref (tt 2) :: rest)) := by
  obtain ⟨h1, rfl⟩ := pl_if hv
  exact va_tl C.1 C.2.1 C.2.2.2.2.2.2.2.2.2.1.2.2.2 hS (pl_ok_in h1) rfl hdg kk
theorem pl_tlen2 (C : pl_C p s m args meth c cc nL own ret nm D dA tt b) (hS : va_S (pl_A b) s.heap H locs) (hdg : decode cc pc = .ok (.arraylength, 1)) (kk : W p l e R s m args below meth c H locs cells slots Q (F0 m (pc + 1) ls (.int (pl_tn2 : Int32) :: rest))) : W p l e R s m args below meth c H locs cells slots Q (F0 m pc ls (.ref (tt 2) :: rest)) :=
  va_tlen C.1 C.2.1 C.2.2.2.2.2.2.2.2.2.1.2.2.2 hS rfl hdg kk
theorem pl_aldQ2 (C : pl_C p s m args meth c cc nL own ret nm D dA tt b) (w : pl_wd D vwCl dA b n f H) {i : Int32} {x : Option Nat} (hv : pl_aQ f 2 a i = some x) (hdg : decode cc pc = .ok (.aaload, 1))
    (kk : W p l e R s m args below meth c H locs cells slots Q (F0 m (pc + 1) ls (va_rf x :: rest))) : W p l e R s m args below meth c H locs cells slots Q (F0 m pc ls (.int i :: .ref a :: rest)) := by
  obtain ⟨k, g, h1, h2, rfl⟩ := pl_aQ_e hv
  exact va_aldq C.1 C.2.1 C.2.2.2.2.2.2.2.2.1 (pl_P1 (q := (a, .inl (dA 2, k, .inr (.inr (.inr (.inr g)))))) (pl_arr w h1).2) 0 2 rfl rfl h2 hdg kk
theorem pl_aldQ3 (C : pl_C p s m args meth c cc nL own ret nm D dA tt b) (w : pl_wd D vwCl dA b n f H) {i : Int32} {x : Option Nat} (hv : pl_aQ f 3 a i = some x) (hdg : decode cc pc = .ok (.aaload, 1))
    (kk : W p l e R s m args below meth c H locs cells slots Q (F0 m (pc + 1) ls (va_rf x :: rest))) : W p l e R s m args below meth c H locs cells slots Q (F0 m pc ls (.int i :: .ref a :: rest)) := by
  obtain ⟨k, g, h1, hin, rfl⟩ := pl_aQ_e hv
  have hlt : i.toNatClampNeg < k := Nat.not_le.mp fun q => hin (Or.inr q)
  have hK := C.2.2.2.2.2.2.2.2.1
  exact W.aald (v := va_rf (g i.toNatClampNeg)) (ty := .array .int) C.1 C.2.1 (pl_arr w h1).2 ((hK.2 3 _ rfl).1 k (fun j => va_rf (g j))) rfl (fun q => by cases q) (by show ¬ (i < 0 ∨ (arrV _ _ _).slots.size ≤ _); rw [arrV_size]; exact hin) (by show (arrV _ _ _).slots[_]? = _; rw [arrV_read _ _ hlt]) rfl rfl hdg kk
theorem pl_aldZ (C : pl_C p s m args meth c cc nL own ret nm D dA tt b) (w : pl_wd D vwCl dA b n f H) {i x : Int32} (hv : pl_aZ f a i = some x) (hdg : decode cc pc = .ok (.baload, 1))
    (kk : W p l e R s m args below meth c H locs cells slots Q (F0 m (pc + 1) ls (.int x :: rest))) : W p l e R s m args below meth c H locs cells slots Q (F0 m pc ls (.int i :: .ref a :: rest)) := by
  obtain ⟨k, g, h1, h2, rfl⟩ := pl_aZ_e hv
  exact va_zald C.1 C.2.1 C.2.2.2.2.2.2.2.2.1 (pl_P1 (q := (a, .inl (dA 4, k, .inl g))) (pl_arr w h1).2) 0 4 rfl rfl h2 hdg kk
theorem pl_len (C : pl_C p s m args meth c cc nL own ret nm D dA tt b) (w : pl_wd D vwCl dA b n f H) {x : Int32} (hv : pl_ln f a = some x) (hdg : decode cc pc = .ok (.arraylength, 1))
    (kk : W p l e R s m args below meth c H locs cells slots Q (F0 m (pc + 1) ls (.int x :: rest))) : W p l e R s m args below meth c H locs cells slots Q (F0 m pc ls (.ref a :: rest)) := by
  obtain ⟨t, y, h1, ht, rfl⟩ := pl_ln_e hv
  have hK := C.2.2.2.2.2.2.2.2.1
  have hP : va_P D vwCl [(a, .inl (dA t, y))] H := pl_P1 (pl_arr w h1).2
  match t, ht, hP with
  | 0, _, hP => exact va_alen C.1 C.2.1 hK hP 0 0 rfl rfl rfl hdg kk
  | 1, _, hP => exact va_alen C.1 C.2.1 hK hP 0 1 rfl rfl rfl hdg kk
  | 2, _, hP => exact va_alen C.1 C.2.1 hK hP 0 2 rfl rfl rfl hdg kk
  | 3, _, hP => exact va_alen C.1 C.2.1 hK hP 0 3 rfl rfl rfl hdg kk
  | 4, _, hP => exact va_alen C.1 C.2.1 hK hP 0 4 rfl rfl rfl hdg kk
  | t + 5, h, _ => exact absurd h (by omega)
theorem pl_astZ (C : pl_C p s m args meth c cc nL own ret nm D dA tt b) (w : pl_wd D vwCl dA b n f H) (hS : va_S (pl_A b) s.heap H locs) {i x : Int32} (hv : pl_sZ f a i x = some f') (hdg : decode cc pc = .ok (.bastore, 1))
    (kk : ∀ (H : Heap) (locs : List Loc), pl_wd D vwCl dA b n f' H → va_S (pl_A b) s.heap H locs → W p l e R s m args below meth c H locs cells slots Q (F0 m (pc + 1) ls rest)) : W p l e R s m args below meth c H locs cells slots Q (F0 m pc ls (.int x :: .int i :: .ref a :: rest)) := by
  obtain ⟨k, g, h1, hin, hnr, rfl⟩ := pl_sZ_e hv
  obtain ⟨hi0, hcell⟩ := pl_arr w h1
  have hK := C.2.2.2.2.2.2.2.2.1
  refine W.zast C.1 C.2.1 hcell ((hK.2 4 _ rfl).1 k (fun j => .int (g j))) (fun q => by cases q) (by show ¬ (i < 0 ∨ (arrV _ _ _).slots.size ≤ _); rw [arrV_size]; exact hin) rfl rfl hdg fun H1 e z oq => ?_
  refine kk H1 _ (pl_set w hi0 (e := .inl (4, k, .inl (upd g i.toNatClampNeg x))) ?_ z oq) (hS.put z oq hi0.1)
  show H1[a]? = some (vp_cell _ _)
  rw [e, hnr]
  rw [vp_cell_i, vp_cell_i, arrV_store]
  congr 2
  funext q
  by_cases hq : q = i.toNatClampNeg
  · subst hq
    simp [updV, upd]
  · simp [updV, upd, hq]
theorem pl_astQ2 (C : pl_C p s m args meth c cc nL own ret nm D dA tt b) (w : pl_wd D vwCl dA b n f H) (hS : va_S (pl_A b) s.heap H locs) {i : Int32} {r : Option Nat} (hv : pl_sQ f 2 3 a i r = some f') (hdg : decode cc pc = .ok (.aastore, 1))
    (kk : ∀ (H : Heap) (locs : List Loc), pl_wd D vwCl dA b n f' H → va_S (pl_A b) s.heap H locs → W p l e R s m args below meth c H locs cells slots Q (F0 m (pc + 1) ls rest)) : W p l e R s m args below meth c H locs cells slots Q (F0 m pc ls (va_rf r :: .int i :: .ref a :: rest)) := by
  obtain ⟨k, g, h1, hin, rfl, hob⟩ := pl_sQ_e hv
  obtain ⟨hi0, hcell⟩ := pl_arr w h1
  have hK := C.2.2.2.2.2.2.2.2.1
  have hlt : i.toNatClampNeg < k := Nat.not_le.mp fun q => hin (Or.inr q)
  have h0 : ¬ i < 0 := fun q => hin (Or.inl q)
  have fin : ∀ (H1 : Heap), H1[a]? = some ((vp_cell (dA 2) (k, .inr (.inr (.inr (.inr g))))).setSlot i.toNatClampNeg (va_rf r)) → H1.size = H.size → (∀ q : Nat, q ≠ a → H1[q]? = H[q]?) → W p l e R s m args below meth c H1 (locs ++ [⟨a, i.toNatClampNeg⟩]) cells slots Q (F0 m (pc + 1) ls rest) := by
    intro H1 e z oq
    refine kk H1 _ (pl_set w hi0 (e := .inl (2, k, .inr (.inr (.inr (.inr (va_up g i.toNatClampNeg r)))))) ?_ z oq) (hS.put z oq hi0.1)
    show H1[a]? = some (vp_cell _ _)
    rw [e]
    rw [vp_cell_q, vp_cell_q, arrV_store]
    congr 2
    funext q
    by_cases hq : q = i.toNatClampNeg
    · subst hq
      simp [updV, va_up]
    · simp [updV, va_up, hq]
  cases r with
  | none =>
    exact va_WaastN (C := "ProvenLedger$Node") C.1 C.2.1 hcell ((hK.2 2 _ rfl).1 k (fun j => va_rf (g j))) (fun h => by cases h) (by show ¬ (i < 0 ∨ (arrV _ _ _).slots.size ≤ _); rw [arrV_size]; exact hin) rfl rfl hdg fin
  | some v =>
    obtain ⟨vs, hv2⟩ := hob v rfl
    obtain ⟨hiv, r', hr', cellV, g1, g2, g3, -⟩ := pl_obj w (by decide) hv2
    have hcls := (hK.1 3 _ rfl).2
    obtain ⟨kA, comp, k1, k2, k3, -⟩ := (hK.2 2 _ rfl).2
    have hcomp : comp = D.1 3 := Option.some.inj (k3.symm.trans hcls.1)
    subst hcomp
    obtain ⟨kC, hkC, -⟩ := hcls.2
    exact W.aast C.1 C.2.1 hcell (fun q h => by cases h) (fun h => by cases h) k1 k2 rfl hkC ⟨h0, by show _ < (arrV _ _ _).slots.size; rw [arrV_size]; exact hlt⟩ g1 (fun q h => by rw [g3] at h; cases h) (by rw [g2]; exact hkC) (by rw [g2]; exact va_assign hcls) rfl rfl hdg fin
-- members of a nest mate
theorem pl_getNV (C : pl_C p s m args meth c cc nL own ret nm D dA tt b) (w : pl_wd D vwCl dA b n f H) {Cn host : String} {T : u_T} {N ci index : Nat} (hin : ∀ w ∈ u_ws Cn T N, w ∈ pl_tb) (hc : vwCl[ci]? = some (Cn, T, N)) (hci : ci ≠ 1000) (k : Nat) (hk : k < N) (hm : va_Nw (Cond.fieldLinkNest own index (T k).1 (T k).2.1 (T k).2.2.1 host) s) {v : Value} (hv : pl_gV f a ci k = some v) (hdg : decode cc pc = .ok (.getfield index, 3))
    (kk : W p l e R s m args below meth c H locs cells slots Q (F0 m (pc + 3) ls (v :: rest))) : W p l e R s m args below meth c H locs cells slots Q (F0 m pc ls (.ref a :: rest)) := by
  obtain ⟨hx, hb, hml, hr, hown, hlk, hts, hnm, hK⟩ := C
  obtain ⟨fs, h1, h2⟩ := pl_gV_e hv
  exact va_getN hx hb hts hin hown hK.1 (pl_P1 (pl_obj w hci h1).2) 0 rfl hc k hk (va_Nw.use rfl hm) (fun _ h => h) h2 hdg kk
theorem pl_getNI (C : pl_C p s m args meth c cc nL own ret nm D dA tt b) (w : pl_wd D vwCl dA b n f H) {Cn host : String} {T : u_T} {N ci index : Nat} (hin : ∀ w ∈ u_ws Cn T N, w ∈ pl_tb) (hc : vwCl[ci]? = some (Cn, T, N)) (hci : ci ≠ 1000) (k : Nat) (hk : k < N) (hm : va_Nw (Cond.fieldLinkNest own index (T k).1 (T k).2.1 (T k).2.2.1 host) s) {x : Int32} (hv : pl_gI f a ci k = some x) (hdg : decode cc pc = .ok (.getfield index, 3))
    (kk : W p l e R s m args below meth c H locs cells slots Q (F0 m (pc + 3) ls (.int x :: rest))) : W p l e R s m args below meth c H locs cells slots Q (F0 m pc ls (.ref a :: rest)) := by
  obtain ⟨v, h1, h2⟩ := pl_bd hv
  have h3 := pl_vI_e h2
  subst h3
  exact pl_getNV C w hin hc hci k hk hm h1 hdg kk
theorem pl_getNR (C : pl_C p s m args meth c cc nL own ret nm D dA tt b) (w : pl_wd D vwCl dA b n f H) {Cn host : String} {T : u_T} {N ci index : Nat} (hin : ∀ w ∈ u_ws Cn T N, w ∈ pl_tb) (hc : vwCl[ci]? = some (Cn, T, N)) (hci : ci ≠ 1000) (k : Nat) (hk : k < N) (hm : va_Nw (Cond.fieldLinkNest own index (T k).1 (T k).2.1 (T k).2.2.1 host) s) {x : Nat} (hv : pl_gR f a ci k = some x) (hdg : decode cc pc = .ok (.getfield index, 3))
    (kk : W p l e R s m args below meth c H locs cells slots Q (F0 m (pc + 3) ls (.ref x :: rest))) : W p l e R s m args below meth c H locs cells slots Q (F0 m pc ls (.ref a :: rest)) := by
  obtain ⟨v, h1, h2⟩ := pl_bd hv
  have h3 := pl_vR_e h2
  subst h3
  exact pl_getNV C w hin hc hci k hk hm h1 hdg kk
theorem pl_putN (C : pl_C p s m args meth c cc nL own ret nm D dA tt b) (w : pl_wd D vwCl dA b n f H) (hS0 : va_S (pl_A b) s.heap H locs) {Cn host : String} {T : u_T} {N ci index : Nat} (hin : ∀ w ∈ u_ws Cn T N, w ∈ pl_tb) (hc : vwCl[ci]? = some (Cn, T, N)) (hci : ci ≠ 1000) {ty0 : Nat → FieldType} (hty : ∀ k, k < N → parseFieldDescriptor (T k).2.2.1 = some (ty0 k)) (hnm : ∀ a, a < N → ∀ b, b < N → a ≠ b → (T a).2.1 ≠ (T b).2.1) (k : Nat) (hk : k < N) (hm : va_Nw (Cond.fieldLinkNest own index (T k).1 (T k).2.1 (T k).2.2.1 host) s) {v : Value} (hfin : (T k).2.2.2 = false) (hn : narrow (ty0 k) v = v) (hfit : fits (ty0 k) v = true) (hv : pl_pV f a ci k v = some f') (hdg : decode cc pc = .ok (.putfield index, 3))
    (kk : ∀ (H : Heap) (locs : List Loc), pl_wd D vwCl dA b n f' H → va_S (pl_A b) s.heap H locs → W p l e R s m args below meth c H locs cells slots Q (F0 m (pc + 3) ls rest)) : W p l e R s m args below meth c H locs cells slots Q (F0 m pc ls (v :: .ref a :: rest)) := by
  obtain ⟨hx, hb, hml, hr, hown, hlk, hts, hnm', hK0⟩ := C
  have hK := hK0.1
  obtain ⟨fs, h1, hl, rfl⟩ := pl_pV_e hv
  obtain ⟨hi0, r, hr1, cell, q1, q2, q3, q4⟩ := pl_obj w hci h1
  have hap := va_apart (own := own) hts hin ty0 hty hnm hK hc
  have hr : r = (Cn, T, N) := Option.some.inj (hr1.symm.trans hc)
  subst hr
  obtain ⟨hS, hfc, kC, hkC, hkind⟩ := hK.1 ci _ hc
  obtain ⟨cf, kf, fi, fd, hi, hsl⟩ := hS k hk
  have hlay := hts _ (hin _ (u_in_lay hk))
  unfold u_lay at hlay
  rw [if_neg (by rw [hfin]; decide)] at hlay
  have hst := (u_facts hfc hkC (u_lays hts hin hk) hi).1
  have h6 := u_store hfc hkC hkind hlay hi (hty k hk) hn hfit
  refine va_WputK hx hb (f := fd) hown (va_Nw.use rfl hm) hi hst (by rw [q2]; exact h6) q1 q3 (by rw [hsl]; exact k2_hasslot (q4 k hk)) rfl rfl hdg fun H' e1 e2 e3 => ?_
  rw [hsl] at e1 ⊢
  exact kk H' _ (pl_set w hi0 (e := .inr (ci, fs.set k v)) ⟨_, hc, t_OB.to (V := updV (vp_V fs) k v) ⟨_, e1, q2, q3, t_set q4 hap hk v⟩ (fun j _ => vp_updV_set hl v j)⟩ e2 e3) (hS0.put e2 e3 hi0.1)
variable {st0 : List Value} {n' mc ms : Nat}
theorem pl_runSN (C : pl_C p s m args meth c cc nL own ret nm D dA tt b) {y : MethodName} {host : String} {bytes : ByteArray} {maxL index k : Nat} {ret' : Option FieldType} {rm : Room} {Qc : Array Value → State → Outcome → State → Prop} {As : List Value}
    (hM : Met l y (Cond.code y bytes maxL ret' :: pl_tb) rm (va_Pc As (pl_pre D dA tt b n f)) Qc mc ms (pl_A b)) (w : pl_wd D vwCl dA b n f H) (hS : va_S (pl_A b) s.heap H locs) (hrc : rm.cells = mc) (hrs : rm.slots = ms)
    (m1 : va_Nw (Cond.methodLinkNest own index y host) s) (m2 : Cond.static y ∈ pl_tb) (m4 : Cond.initialized y.cls ∈ pl_tb) (m5 : Cond.code y bytes maxL ret' ∈ pl_tb)
    (hd : y.cls ≠ "java/lang/invoke/MethodHandle" ∧ y.cls ≠ "java/lang/invoke/VarHandle" ∧ (parseMethodDescriptor y.desc).map (fun d => d.parameters.length) = some k) (hR : rm.frames + 1 ≤ R.frames ∧ 8 + (maxL + 11) + rm.locals ≤ R.locals)
    (hn : As.length = k) (hsize : ls.size = nL) (hW : (rest.map fun v => v.category).sum ≤ 8) (hf : cells + mc ≤ R.cells ∧ slots + ms ≤ R.slots) (hst : st0 = As.reverse ++ rest) (hdg : decode cc pc = .ok (.invokestatic index, 3)) :
    va_Run p l e R s m args below meth c H locs cells slots mc ms (F0 m pc ls st0) rest (Qc As.toArray) (pl_A b) := by
  have hts := C.2.2.2.2.2.2.1
  exact va_runSN ⟨C.1, C.2.1, C.2.2.1, C.2.2.2.2.1, hts⟩ hM ⟨va_cnB k hts (pl_good m5) rfl hrc hrs m1 (hts _ m4) hd hR, hts _ m2, trivial⟩ ⟨pl_blind, pl_preU C w hS⟩ rfl hn hsize hst (lv_room hW) hdg hf
-- the JDK's own
theorem pl_max (C : pl_C p s m args meth c cc nL own ret nm D dA tt b) {index : Nat} (hm : Cond.methodLink own index ⟨"java/lang/Math", "max", "(II)I"⟩ ∈ pl_tb) (m2 : Cond.static ⟨"java/lang/Math", "max", "(II)I"⟩ ∈ pl_tb) (m3 : Cond.initialized "java/lang/Math" ∈ pl_tb) (m4 : Cond.code Lib.Math.max.name Lib.Math.max.code 2 (some .int) ∈ pl_tb) (hfr : 1 ≤ R.frames) (hlo : (rest.map fun v => v.category).sum + 13 ≤ R.locals) (hls : ls.size = nL) (hcs : cells ≤ R.cells ∧ slots ≤ R.slots) {x y : Int32} (hdg : decode cc pc = .ok (.invokestatic index, 3))
    (kk : W p l e R s m args below meth c H locs cells slots Q (F0 m (pc + 3) ls (.int (if x < y then y else x) :: rest))) : W p l e R s m args below meth c H locs cells slots Q (F0 m pc ls (.int y :: .int x :: rest)) := by
  have hts := C.2.2.2.2.2.2.1
  exact va_mmax C.1 C.2.1 (by rw [C.2.2.1, hls]) C.2.2.2.2.1 (hts _ hm) (hts _ m2) (hts _ m3) (hts _ m4) hfr hlo hcs.1 hcs.2 hdg kk
def pl_cp (f : pl_H) (sa : Nat) (sp : Int32) (da : Nat) (dp k : Int32) : Option pl_H := match f sa with
  | .inl (0, n0, .inl g0) => (match f da with
    | .inl (0, n1, .inl g1) => if ¬ sp < 0 ∧ ¬ dp < 0 ∧ ¬ k < 0 ∧ sp.toNatClampNeg + k.toNatClampNeg ≤ n0 ∧ dp.toNatClampNeg + k.toNatClampNeg ≤ n1 then some (va_up f da (.inl (0, n1, .inl (va_cpy g0 g1 sp.toNatClampNeg dp.toNatClampNeg k.toNatClampNeg)))) else none
    | _ => none)
  | _ => none
theorem pl_cp_e {f f' : pl_H} {sa da : Nat} {sp dp k : Int32} (h : pl_cp f sa sp da dp k = some f') : ∃ (n0 n1 : Nat) (g0 g1 : Nat → Int32), f sa = .inl (0, n0, .inl g0) ∧ f da = .inl (0, n1, .inl g1) ∧ (¬ sp < 0 ∧ ¬ dp < 0 ∧ ¬ k < 0 ∧ sp.toNatClampNeg + k.toNatClampNeg ≤ n0 ∧ dp.toNatClampNeg + k.toNatClampNeg ≤ n1) ∧ f' = va_up f da (.inl (0, n1, .inl (va_cpy g0 g1 sp.toNatClampNeg dp.toNatClampNeg k.toNatClampNeg))) := by
  unfold pl_cp at h
  split at h
  · rename_i n0 g0 h0
    split at h
    · rename_i n1 g1 h1
      split at h
      · rename_i hc
        cases h
        exact ⟨n0, n1, g0, g1, h0, h1, hc, rfl⟩
      · cases h
    · cases h
  · cases h
theorem pl_copy (C : pl_C p s m args meth c cc nL own ret nm D dA tt b) (w : pl_wd D vwCl dA b n f H) (hS : va_S (pl_A b) s.heap H locs) {index : Nat} (hm : Cond.methodLink own index ⟨"java/lang/System", "arraycopy", "(Ljava/lang/Object;ILjava/lang/Object;II)V"⟩ ∈ pl_tb) (m2 : Cond.native ⟨"java/lang/System", "arraycopy", "(Ljava/lang/Object;ILjava/lang/Object;II)V"⟩ ∈ pl_tb) (m3 : Cond.static ⟨"java/lang/System", "arraycopy", "(Ljava/lang/Object;ILjava/lang/Object;II)V"⟩ ∈ pl_tb) (m4 : Cond.initialized "java/lang/System" ∈ pl_tb) (hls : ls.size = nL) {sa : Nat} {sp dp k : Int32} (hv : pl_cp f sa sp a dp k = some f')
    (hframes : 1 ≤ R.frames) (hlocals : (rest.map fun v => v.category).sum + (nativeFrameWords "java/lang/System" "arraycopy" 5 + 11) ≤ R.locals) (hdg : decode cc pc = .ok (.invokestatic index, 3))
    (kk : ∀ (H : Heap) (locs : List Loc), pl_wd D vwCl dA b n f' H → va_S (pl_A b) s.heap H locs → W p l e R s m args below meth c H locs cells slots Q (F0 m (pc + 3) ls rest)) : W p l e R s m args below meth c H locs cells slots Q (F0 m pc ls (.int k :: .int dp :: .ref a :: .int sp :: .ref sa :: rest)) := by
  obtain ⟨n0, n1, g0, g1, e0, e1, ⟨h1, h2, h3, h4, h5⟩, rfl⟩ := pl_cp_e hv
  have hts := C.2.2.2.2.2.2.1
  have hK := C.2.2.2.2.2.2.2.2.1
  have nn : ∀ z : Int32, ¬ z < 0 → z.toInt = (z.toNatClampNeg : Int) := by
    intro z hz
    have hz0 : (0 : Int) ≤ z.toInt := by
      have := Int32.not_lt.mp hz
      simpa using Int32.le_iff_toInt_le.mp this
    show z.toInt = ((z.toInt.toNat : Nat) : Int)
    omega
  intro T hT X
  obtain ⟨hi0, hc0⟩ := pl_arr w e0
  obtain ⟨hi1, hc1⟩ := pl_arr w e1
  obtain ⟨-, k0, hk0, cm0, hkk0⟩ := (hK.2 0 _ rfl).1 n0 (fun j => .int (g0 j))
  obtain ⟨-, k1, hk1, cm1, hkk1⟩ := (hK.2 0 _ rfl).1 n1 (fun j => .int (g1 j))
  obtain ⟨vm', X', step⟩ := X.arraycopy C.1 C.2.2.2.2.1 (hts _ hm) (hts _ m2) (hts _ m3) (hts _ m4) (src := sa) (dst := a) (cs := vp_cell (dA 0) (n0, .inl g0)) (cd := vp_cell (dA 0) (n1, .inl g1)) (srcPos := sp) (destPos := dp) (n := k) (by rw [hT]; exact hc0) (by rw [hT]; exact hc1)
    (fun _ h => by cases h) (fun _ h => by cases h) (fun h => by cases h) (fun h => by cases h) hk0 hk1 hkk0 hkk1 (by simp [refKind]) h1 h2 h3
    (by rw [nn sp h1, nn k h3]; show ¬ _ > ((arrV (dA 0) n0 (fun j => .int (g0 j))).slots.size : Int); rw [arrV_size]; omega)
    (by rw [nn dp h2, nn k h3]; show ¬ _ > ((arrV (dA 0) n1 (fun j => .int (g1 j))).slots.size : Int); rw [arrV_size]; omega)
    (fun vm₁ _ i hi => by
      have e : (vp_cell (dA 0) (n0, .inl g0)).slots.getD (sp.toNatClampNeg + i) .null = .int (g0 (sp.toNatClampNeg + i)) := by
        show (arrV (dA 0) n0 (fun j => .int (g0 j))).slots.getD _ _ = _
        rw [Array.getD_eq_getD_getElem?, arrV_read _ _ (by omega)]
        rfl
      refine ⟨?_, ?_⟩
      · rw [e]
        rfl
      · rw [e]
        exact trivial)
    (g := F0 m pc ls (.int k :: .int dp :: .ref a :: .int sp :: .ref sa :: rest)) rfl (by rw [C.2.2.1, ← hls]) (rest := rest) rfl (by rw [C.2.1]; exact hdg) hframes (by show 2 * 0 + _ + _ ≤ _; omega)
  have e2 : copied (vp_cell (dA 0) (n0, .inl g0)) (vp_cell (dA 0) (n1, .inl g1)) sp dp k = vp_cell (dA 0) (n1, .inl (va_cpy g0 g1 sp.toNatClampNeg dp.toNatClampNeg k.toNatClampNeg)) := va_copied (fun z => .int z) (dA 0) (dA 0) g0 g1 h4
  rw [e2] at X' step
  have hl : a < H.size := (Array.getElem?_eq_some_iff.mp hc1).1
  have hheap : ((T.setVm vm').setCell a (vp_cell (dA 0) (n1, .inl (va_cpy g0 g1 sp.toNatClampNeg dp.toNatClampNeg k.toNatClampNeg)))).heap = H.setIfInBounds a (vp_cell (dA 0) (n1, .inl (va_cpy g0 g1 sp.toNatClampNeg dp.toNatClampNeg k.toNatClampNeg))) := by rw [← hT]; rfl
  have oq : ∀ q : Nat, q ≠ a → (H.setIfInBounds a (vp_cell (dA 0) (n1, .inl (va_cpy g0 g1 sp.toNatClampNeg dp.toNatClampNeg k.toNatClampNeg))))[q]? = H[q]? := fun q hq => by simp [Array.getElem?_setIfInBounds, Ne.symm hq]
  obtain ⟨t, a1, b1⟩ := kk _ _ (pl_set w hi1 (e := .inl (0, n1, .inl (va_cpy g0 g1 sp.toNatClampNeg dp.toNatClampNeg k.toNatClampNeg))) (show (H.setIfInBounds a _)[a]? = some _ by simp [Array.getElem?_setIfInBounds, hl]) (by simp) oq) ⟨by simp; exact hS.1, fun q g1 g2 => by
      rw [oq q (fun e => g2 (by rw [e]; exact hi1.1))]
      exact hS.2.1 q g1 g2, fun q hq => by
      rcases List.mem_append.mp hq with h | h
      · exact hS.2.2 q h
      · obtain ⟨z, -, hz⟩ := List.mem_map.mp h
        rw [← hz]
        exact hi1.1⟩ _ hheap X'
  exact ⟨t, step t a1, b1⟩
end PLS
end
