-- ===== PART A: goes FIRST, ahead of the names: the tables' words, and 'selects' of the private methods out of them =====
/-- a private method of a class that the tables say can be made, by its rows of tables_1 -/
def lw_okq (q : MethodName × Nat) : Prop := (q.1.cls ≠ "java/lang/invoke/MethodHandle" ∧ q.1.cls ≠ "java/lang/invoke/VarHandle") ∧ Cond.instantiable q.1.cls q.2 ∈ tables_1 ∧ Cond.privateMethod q.1 ∈ tables_1 ∧ Cond.instanceMethod q.1 ∈ tables_1
theorem lw_p0 : lw_okq (⟨"HotIron", "refuse", "(I)I"⟩, 14) := ⟨⟨by decide +kernel, by decide +kernel⟩, List.mem_of_getElem? (i := 20) (by decide +kernel), List.mem_of_getElem? (i := 268) (by decide +kernel), List.mem_of_getElem? (i := 269) (by decide +kernel)⟩
theorem lw_p1 : lw_okq (⟨"HotIron", "grant", "(I)I"⟩, 14) := ⟨⟨by decide +kernel, by decide +kernel⟩, List.mem_of_getElem? (i := 20) (by decide +kernel), List.mem_of_getElem? (i := 279) (by decide +kernel), List.mem_of_getElem? (i := 280) (by decide +kernel)⟩
theorem lw_p2 : lw_okq (⟨"HotIron", "setIron", "([III)I"⟩, 14) := ⟨⟨by decide +kernel, by decide +kernel⟩, List.mem_of_getElem? (i := 20) (by decide +kernel), List.mem_of_getElem? (i := 287) (by decide +kernel), List.mem_of_getElem? (i := 288) (by decide +kernel)⟩
theorem lw_p3 : lw_okq (⟨"HotIron", "write", "(I)V"⟩, 14) := ⟨⟨by decide +kernel, by decide +kernel⟩, List.mem_of_getElem? (i := 20) (by decide +kernel), List.mem_of_getElem? (i := 311) (by decide +kernel), List.mem_of_getElem? (i := 312) (by decide +kernel)⟩
theorem lw_p4 : lw_okq (⟨"HotIron", "intOnTape", "(I)I"⟩, 14) := ⟨⟨by decide +kernel, by decide +kernel⟩, List.mem_of_getElem? (i := 20) (by decide +kernel), List.mem_of_getElem? (i := 323) (by decide +kernel), List.mem_of_getElem? (i := 324) (by decide +kernel)⟩
theorem lw_p5 : lw_okq (⟨"HotIron$Reader", "splitTokens", "([BI)V"⟩, 11) := ⟨⟨by decide +kernel, by decide +kernel⟩, List.mem_of_getElem? (i := 90) (by decide +kernel), List.mem_of_getElem? (i := 341) (by decide +kernel), List.mem_of_getElem? (i := 342) (by decide +kernel)⟩
theorem lw_p6 : lw_okq (⟨"HotIron$Reader", "readStep", "(I)V"⟩, 11) := ⟨⟨by decide +kernel, by decide +kernel⟩, List.mem_of_getElem? (i := 90) (by decide +kernel), List.mem_of_getElem? (i := 428) (by decide +kernel), List.mem_of_getElem? (i := 429) (by decide +kernel)⟩
theorem lw_p7 : lw_okq (⟨"HotIron$Reader", "now", "()I"⟩, 11) := ⟨⟨by decide +kernel, by decide +kernel⟩, List.mem_of_getElem? (i := 90) (by decide +kernel), List.mem_of_getElem? (i := 432) (by decide +kernel), List.mem_of_getElem? (i := 433) (by decide +kernel)⟩
theorem lw_p8 : lw_okq (⟨"HotIron$Reader", "fail", "()V"⟩, 11) := ⟨⟨by decide +kernel, by decide +kernel⟩, List.mem_of_getElem? (i := 90) (by decide +kernel), List.mem_of_getElem? (i := 436) (by decide +kernel), List.mem_of_getElem? (i := 437) (by decide +kernel)⟩
theorem lw_p9 : lw_okq (⟨"HotIron$Reader", "readNumber", "(I)V"⟩, 11) := ⟨⟨by decide +kernel, by decide +kernel⟩, List.mem_of_getElem? (i := 90) (by decide +kernel), List.mem_of_getElem? (i := 440) (by decide +kernel), List.mem_of_getElem? (i := 441) (by decide +kernel)⟩
theorem lw_p10 : lw_okq (⟨"HotIron$Reader", "readSum", "()V"⟩, 11) := ⟨⟨by decide +kernel, by decide +kernel⟩, List.mem_of_getElem? (i := 90) (by decide +kernel), List.mem_of_getElem? (i := 444) (by decide +kernel), List.mem_of_getElem? (i := 445) (by decide +kernel)⟩
theorem lw_p11 : lw_okq (⟨"HotIron$Reader", "readPart", "()V"⟩, 11) := ⟨⟨by decide +kernel, by decide +kernel⟩, List.mem_of_getElem? (i := 90) (by decide +kernel), List.mem_of_getElem? (i := 448) (by decide +kernel), List.mem_of_getElem? (i := 449) (by decide +kernel)⟩
theorem lw_p12 : lw_okq (⟨"HotIron$Reader", "sees", "(I)Z"⟩, 11) := ⟨⟨by decide +kernel, by decide +kernel⟩, List.mem_of_getElem? (i := 90) (by decide +kernel), List.mem_of_getElem? (i := 452) (by decide +kernel), List.mem_of_getElem? (i := 453) (by decide +kernel)⟩
theorem lw_p13 : lw_okq (⟨"HotIron$Reader", "enters", "(I)Z"⟩, 11) := ⟨⟨by decide +kernel, by decide +kernel⟩, List.mem_of_getElem? (i := 90) (by decide +kernel), List.mem_of_getElem? (i := 456) (by decide +kernel), List.mem_of_getElem? (i := 457) (by decide +kernel)⟩
theorem lw_p14 : lw_okq (⟨"HotIron$Reader", "take", "(I)V"⟩, 11) := ⟨⟨by decide +kernel, by decide +kernel⟩, List.mem_of_getElem? (i := 90) (by decide +kernel), List.mem_of_getElem? (i := 460) (by decide +kernel), List.mem_of_getElem? (i := 461) (by decide +kernel)⟩
theorem lw_p15 : lw_okq (⟨"HotIron$Reader", "emit", "(I)V"⟩, 11) := ⟨⟨by decide +kernel, by decide +kernel⟩, List.mem_of_getElem? (i := 90) (by decide +kernel), List.mem_of_getElem? (i := 464) (by decide +kernel), List.mem_of_getElem? (i := 465) (by decide +kernel)⟩
def lw_privs_1 : List (MethodName × Nat) := [(⟨"HotIron", "refuse", "(I)I"⟩, 14), (⟨"HotIron", "grant", "(I)I"⟩, 14), (⟨"HotIron", "setIron", "([III)I"⟩, 14), (⟨"HotIron", "write", "(I)V"⟩, 14), (⟨"HotIron", "intOnTape", "(I)I"⟩, 14), (⟨"HotIron$Reader", "splitTokens", "([BI)V"⟩, 11), (⟨"HotIron$Reader", "readStep", "(I)V"⟩, 11), (⟨"HotIron$Reader", "now", "()I"⟩, 11), (⟨"HotIron$Reader", "fail", "()V"⟩, 11), (⟨"HotIron$Reader", "readNumber", "(I)V"⟩, 11), (⟨"HotIron$Reader", "readSum", "()V"⟩, 11), (⟨"HotIron$Reader", "readPart", "()V"⟩, 11), (⟨"HotIron$Reader", "sees", "(I)Z"⟩, 11), (⟨"HotIron$Reader", "enters", "(I)Z"⟩, 11), (⟨"HotIron$Reader", "take", "(I)V"⟩, 11), (⟨"HotIron$Reader", "emit", "(I)V"⟩, 11)]
theorem lw_r1 : ∀ q ∈ lw_privs_1, lw_okq q := List.forall_mem_cons.mpr ⟨lw_p0, List.forall_mem_cons.mpr ⟨lw_p1, List.forall_mem_cons.mpr ⟨lw_p2, List.forall_mem_cons.mpr ⟨lw_p3, List.forall_mem_cons.mpr ⟨lw_p4, List.forall_mem_cons.mpr ⟨lw_p5, List.forall_mem_cons.mpr ⟨lw_p6, List.forall_mem_cons.mpr ⟨lw_p7, List.forall_mem_cons.mpr ⟨lw_p8, List.forall_mem_cons.mpr ⟨lw_p9, List.forall_mem_cons.mpr ⟨lw_p10, List.forall_mem_cons.mpr ⟨lw_p11, List.forall_mem_cons.mpr ⟨lw_p12, List.forall_mem_cons.mpr ⟨lw_p13, List.forall_mem_cons.mpr ⟨lw_p14, List.forall_mem_cons.mpr ⟨lw_p15, fun _ h => absurd h List.not_mem_nil⟩⟩⟩⟩⟩⟩⟩⟩⟩⟩⟩⟩⟩⟩⟩⟩
theorem lw_p16 : lw_okq (⟨"HotIron$Reader", "readTest", "()V"⟩, 11) := ⟨⟨by decide +kernel, by decide +kernel⟩, List.mem_of_getElem? (i := 90) (by decide +kernel), List.mem_of_getElem? (i := 468) (by decide +kernel), List.mem_of_getElem? (i := 469) (by decide +kernel)⟩
theorem lw_p17 : lw_okq (⟨"HotIron$Reader", "readPlain", "()V"⟩, 11) := ⟨⟨by decide +kernel, by decide +kernel⟩, List.mem_of_getElem? (i := 90) (by decide +kernel), List.mem_of_getElem? (i := 472) (by decide +kernel), List.mem_of_getElem? (i := 473) (by decide +kernel)⟩
theorem lw_p18 : lw_okq (⟨"HotIron$Run", "begin", "(LHotIron$Smithy;)V"⟩, 11) := ⟨⟨by decide +kernel, by decide +kernel⟩, List.mem_of_getElem? (i := 137) (by decide +kernel), List.mem_of_getElem? (i := 536) (by decide +kernel), List.mem_of_getElem? (i := 537) (by decide +kernel)⟩
theorem lw_p19 : lw_okq (⟨"HotIron$Run", "pass", "(LHotIron$Smithy;LHotIron$Recipe;II)I"⟩, 11) := ⟨⟨by decide +kernel, by decide +kernel⟩, List.mem_of_getElem? (i := 137) (by decide +kernel), List.mem_of_getElem? (i := 543) (by decide +kernel), List.mem_of_getElem? (i := 544) (by decide +kernel)⟩
theorem lw_p20 : lw_okq (⟨"HotIron$Run", "reckon", "(LHotIron$Recipe;I)V"⟩, 11) := ⟨⟨by decide +kernel, by decide +kernel⟩, List.mem_of_getElem? (i := 137) (by decide +kernel), List.mem_of_getElem? (i := 547) (by decide +kernel), List.mem_of_getElem? (i := 548) (by decide +kernel)⟩
theorem lw_p21 : lw_okq (⟨"HotIron$Run", "partValue", "(I)I"⟩, 11) := ⟨⟨by decide +kernel, by decide +kernel⟩, List.mem_of_getElem? (i := 137) (by decide +kernel), List.mem_of_getElem? (i := 551) (by decide +kernel), List.mem_of_getElem? (i := 552) (by decide +kernel)⟩
theorem lw_p22 : lw_okq (⟨"HotIron$Run", "push", "(I)V"⟩, 11) := ⟨⟨by decide +kernel, by decide +kernel⟩, List.mem_of_getElem? (i := 137) (by decide +kernel), List.mem_of_getElem? (i := 555) (by decide +kernel), List.mem_of_getElem? (i := 556) (by decide +kernel)⟩
theorem lw_p23 : lw_okq (⟨"HotIron$Run", "pop", "()I"⟩, 11) := ⟨⟨by decide +kernel, by decide +kernel⟩, List.mem_of_getElem? (i := 137) (by decide +kernel), List.mem_of_getElem? (i := 559) (by decide +kernel), List.mem_of_getElem? (i := 560) (by decide +kernel)⟩
theorem lw_p24 : lw_okq (⟨"HotIron$Run", "cellValue", "(II)I"⟩, 11) := ⟨⟨by decide +kernel, by decide +kernel⟩, List.mem_of_getElem? (i := 137) (by decide +kernel), List.mem_of_getElem? (i := 563) (by decide +kernel), List.mem_of_getElem? (i := 564) (by decide +kernel)⟩
theorem lw_p25 : lw_okq (⟨"HotIron$Run", "isHot", "(I)Z"⟩, 11) := ⟨⟨by decide +kernel, by decide +kernel⟩, List.mem_of_getElem? (i := 137) (by decide +kernel), List.mem_of_getElem? (i := 567) (by decide +kernel), List.mem_of_getElem? (i := 568) (by decide +kernel)⟩
theorem lw_p26 : lw_okq (⟨"HotIron$Run", "isThere", "(I)Z"⟩, 11) := ⟨⟨by decide +kernel, by decide +kernel⟩, List.mem_of_getElem? (i := 137) (by decide +kernel), List.mem_of_getElem? (i := 571) (by decide +kernel), List.mem_of_getElem? (i := 572) (by decide +kernel)⟩
theorem lw_p27 : lw_okq (⟨"HotIron$Run", "fire", "(LHotIron$Smithy;I)Z"⟩, 11) := ⟨⟨by decide +kernel, by decide +kernel⟩, List.mem_of_getElem? (i := 137) (by decide +kernel), List.mem_of_getElem? (i := 581) (by decide +kernel), List.mem_of_getElem? (i := 582) (by decide +kernel)⟩
theorem lw_p28 : lw_okq (⟨"HotIron$Run", "loseIron", "(I)V"⟩, 11) := ⟨⟨by decide +kernel, by decide +kernel⟩, List.mem_of_getElem? (i := 137) (by decide +kernel), List.mem_of_getElem? (i := 585) (by decide +kernel), List.mem_of_getElem? (i := 586) (by decide +kernel)⟩
theorem lw_p29 : lw_okq (⟨"HotIron$Run", "strike", "(II)V"⟩, 11) := ⟨⟨by decide +kernel, by decide +kernel⟩, List.mem_of_getElem? (i := 137) (by decide +kernel), List.mem_of_getElem? (i := 589) (by decide +kernel), List.mem_of_getElem? (i := 590) (by decide +kernel)⟩
theorem lw_p30 : lw_okq (⟨"HotIron$Run", "useBlow", "(IZ)Z"⟩, 11) := ⟨⟨by decide +kernel, by decide +kernel⟩, List.mem_of_getElem? (i := 137) (by decide +kernel), List.mem_of_getElem? (i := 593) (by decide +kernel), List.mem_of_getElem? (i := 594) (by decide +kernel)⟩
theorem lw_p31 : lw_okq (⟨"HotIron$Run", "slips", "()Z"⟩, 11) := ⟨⟨by decide +kernel, by decide +kernel⟩, List.mem_of_getElem? (i := 137) (by decide +kernel), List.mem_of_getElem? (i := 597) (by decide +kernel), List.mem_of_getElem? (i := 598) (by decide +kernel)⟩
def lw_privs_2 : List (MethodName × Nat) := [(⟨"HotIron$Reader", "readTest", "()V"⟩, 11), (⟨"HotIron$Reader", "readPlain", "()V"⟩, 11), (⟨"HotIron$Run", "begin", "(LHotIron$Smithy;)V"⟩, 11), (⟨"HotIron$Run", "pass", "(LHotIron$Smithy;LHotIron$Recipe;II)I"⟩, 11), (⟨"HotIron$Run", "reckon", "(LHotIron$Recipe;I)V"⟩, 11), (⟨"HotIron$Run", "partValue", "(I)I"⟩, 11), (⟨"HotIron$Run", "push", "(I)V"⟩, 11), (⟨"HotIron$Run", "pop", "()I"⟩, 11), (⟨"HotIron$Run", "cellValue", "(II)I"⟩, 11), (⟨"HotIron$Run", "isHot", "(I)Z"⟩, 11), (⟨"HotIron$Run", "isThere", "(I)Z"⟩, 11), (⟨"HotIron$Run", "fire", "(LHotIron$Smithy;I)Z"⟩, 11), (⟨"HotIron$Run", "loseIron", "(I)V"⟩, 11), (⟨"HotIron$Run", "strike", "(II)V"⟩, 11), (⟨"HotIron$Run", "useBlow", "(IZ)Z"⟩, 11), (⟨"HotIron$Run", "slips", "()Z"⟩, 11)]
theorem lw_r2 : ∀ q ∈ lw_privs_2, lw_okq q := List.forall_mem_cons.mpr ⟨lw_p16, List.forall_mem_cons.mpr ⟨lw_p17, List.forall_mem_cons.mpr ⟨lw_p18, List.forall_mem_cons.mpr ⟨lw_p19, List.forall_mem_cons.mpr ⟨lw_p20, List.forall_mem_cons.mpr ⟨lw_p21, List.forall_mem_cons.mpr ⟨lw_p22, List.forall_mem_cons.mpr ⟨lw_p23, List.forall_mem_cons.mpr ⟨lw_p24, List.forall_mem_cons.mpr ⟨lw_p25, List.forall_mem_cons.mpr ⟨lw_p26, List.forall_mem_cons.mpr ⟨lw_p27, List.forall_mem_cons.mpr ⟨lw_p28, List.forall_mem_cons.mpr ⟨lw_p29, List.forall_mem_cons.mpr ⟨lw_p30, List.forall_mem_cons.mpr ⟨lw_p31, fun _ h => absurd h List.not_mem_nil⟩⟩⟩⟩⟩⟩⟩⟩⟩⟩⟩⟩⟩⟩⟩⟩
theorem lw_p32 : lw_okq (⟨"HotIron$Run", "moveIron", "(II)V"⟩, 11) := ⟨⟨by decide +kernel, by decide +kernel⟩, List.mem_of_getElem? (i := 137) (by decide +kernel), List.mem_of_getElem? (i := 602) (by decide +kernel), List.mem_of_getElem? (i := 603) (by decide +kernel)⟩
theorem lw_p33 : lw_okq (⟨"HotIron$Run", "shoulder", "(I)V"⟩, 11) := ⟨⟨by decide +kernel, by decide +kernel⟩, List.mem_of_getElem? (i := 137) (by decide +kernel), List.mem_of_getElem? (i := 606) (by decide +kernel), List.mem_of_getElem? (i := 607) (by decide +kernel)⟩
theorem lw_p34 : lw_okq (⟨"HotIron$Run", "punch", "(I)V"⟩, 11) := ⟨⟨by decide +kernel, by decide +kernel⟩, List.mem_of_getElem? (i := 137) (by decide +kernel), List.mem_of_getElem? (i := 610) (by decide +kernel), List.mem_of_getElem? (i := 611) (by decide +kernel)⟩
theorem lw_p35 : lw_okq (⟨"HotIron$Run", "weld", "(II)V"⟩, 11) := ⟨⟨by decide +kernel, by decide +kernel⟩, List.mem_of_getElem? (i := 137) (by decide +kernel), List.mem_of_getElem? (i := 614) (by decide +kernel), List.mem_of_getElem? (i := 615) (by decide +kernel)⟩
theorem lw_p36 : lw_okq (⟨"HotIron", "planner", "()LHotIron$Planner;"⟩, 14) := ⟨⟨by decide +kernel, by decide +kernel⟩, List.mem_of_getElem? (i := 20) (by decide +kernel), List.mem_of_getElem? (i := 644) (by decide +kernel), List.mem_of_getElem? (i := 645) (by decide +kernel)⟩
theorem lw_p37 : lw_okq (⟨"HotIron$Forge", "findRows", "(II[J)V"⟩, 10) := ⟨⟨by decide +kernel, by decide +kernel⟩, List.mem_of_getElem? (i := 656) (by decide +kernel), List.mem_of_getElem? (i := 666) (by decide +kernel), List.mem_of_getElem? (i := 667) (by decide +kernel)⟩
theorem lw_p38 : lw_okq (⟨"HotIron$Planner", "aimAt", "(LHotIron$Smithy;)V"⟩, 13) := ⟨⟨by decide +kernel, by decide +kernel⟩, List.mem_of_getElem? (i := 649) (by decide +kernel), List.mem_of_getElem? (i := 791) (by decide +kernel), List.mem_of_getElem? (i := 792) (by decide +kernel)⟩
theorem lw_p39 : lw_okq (⟨"HotIron$Forge", "heat", "([JI[J)V"⟩, 10) := ⟨⟨by decide +kernel, by decide +kernel⟩, List.mem_of_getElem? (i := 656) (by decide +kernel), List.mem_of_getElem? (i := 831) (by decide +kernel), List.mem_of_getElem? (i := 832) (by decide +kernel)⟩
theorem lw_p40 : lw_okq (⟨"HotIron$Forge", "spread", "([JII)V"⟩, 10) := ⟨⟨by decide +kernel, by decide +kernel⟩, List.mem_of_getElem? (i := 656) (by decide +kernel), List.mem_of_getElem? (i := 838) (by decide +kernel), List.mem_of_getElem? (i := 839) (by decide +kernel)⟩
theorem lw_p41 : lw_okq (⟨"HotIron$Forge", "unheat", "([JI[J)V"⟩, 10) := ⟨⟨by decide +kernel, by decide +kernel⟩, List.mem_of_getElem? (i := 656) (by decide +kernel), List.mem_of_getElem? (i := 847) (by decide +kernel), List.mem_of_getElem? (i := 848) (by decide +kernel)⟩
theorem lw_p42 : lw_okq (⟨"HotIron$Planner", "chooseCells", "(II)V"⟩, 13) := ⟨⟨by decide +kernel, by decide +kernel⟩, List.mem_of_getElem? (i := 649) (by decide +kernel), List.mem_of_getElem? (i := 869) (by decide +kernel), List.mem_of_getElem? (i := 870) (by decide +kernel)⟩
theorem lw_p43 : lw_okq (⟨"HotIron$Planner", "trimPath", "(I)V"⟩, 13) := ⟨⟨by decide +kernel, by decide +kernel⟩, List.mem_of_getElem? (i := 649) (by decide +kernel), List.mem_of_getElem? (i := 876) (by decide +kernel), List.mem_of_getElem? (i := 877) (by decide +kernel)⟩
theorem lw_p44 : lw_okq (⟨"HotIron$Planner", "chooseRows", "(II)V"⟩, 13) := ⟨⟨by decide +kernel, by decide +kernel⟩, List.mem_of_getElem? (i := 649) (by decide +kernel), List.mem_of_getElem? (i := 882) (by decide +kernel), List.mem_of_getElem? (i := 883) (by decide +kernel)⟩
theorem lw_p45 : lw_okq (⟨"HotIron", "makeTwelve", "(LHotIron$Recipe;II)V"⟩, 14) := ⟨⟨by decide +kernel, by decide +kernel⟩, List.mem_of_getElem? (i := 20) (by decide +kernel), List.mem_of_getElem? (i := 949) (by decide +kernel), List.mem_of_getElem? (i := 950) (by decide +kernel)⟩
theorem lw_p46 : lw_okq (⟨"HotIron", "widestApart", "()I"⟩, 14) := ⟨⟨by decide +kernel, by decide +kernel⟩, List.mem_of_getElem? (i := 20) (by decide +kernel), List.mem_of_getElem? (i := 958) (by decide +kernel), List.mem_of_getElem? (i := 959) (by decide +kernel)⟩
theorem lw_p47 : lw_okq (⟨"HotIron", "ironApart", "(I[II)I"⟩, 14) := ⟨⟨by decide +kernel, by decide +kernel⟩, List.mem_of_getElem? (i := 20) (by decide +kernel), List.mem_of_getElem? (i := 962) (by decide +kernel), List.mem_of_getElem? (i := 963) (by decide +kernel)⟩
def lw_privs_3 : List (MethodName × Nat) := [(⟨"HotIron$Run", "moveIron", "(II)V"⟩, 11), (⟨"HotIron$Run", "shoulder", "(I)V"⟩, 11), (⟨"HotIron$Run", "punch", "(I)V"⟩, 11), (⟨"HotIron$Run", "weld", "(II)V"⟩, 11), (⟨"HotIron", "planner", "()LHotIron$Planner;"⟩, 14), (⟨"HotIron$Forge", "findRows", "(II[J)V"⟩, 10), (⟨"HotIron$Planner", "aimAt", "(LHotIron$Smithy;)V"⟩, 13), (⟨"HotIron$Forge", "heat", "([JI[J)V"⟩, 10), (⟨"HotIron$Forge", "spread", "([JII)V"⟩, 10), (⟨"HotIron$Forge", "unheat", "([JI[J)V"⟩, 10), (⟨"HotIron$Planner", "chooseCells", "(II)V"⟩, 13), (⟨"HotIron$Planner", "trimPath", "(I)V"⟩, 13), (⟨"HotIron$Planner", "chooseRows", "(II)V"⟩, 13), (⟨"HotIron", "makeTwelve", "(LHotIron$Recipe;II)V"⟩, 14), (⟨"HotIron", "widestApart", "()I"⟩, 14), (⟨"HotIron", "ironApart", "(I[II)I"⟩, 14)]
theorem lw_r3 : ∀ q ∈ lw_privs_3, lw_okq q := List.forall_mem_cons.mpr ⟨lw_p32, List.forall_mem_cons.mpr ⟨lw_p33, List.forall_mem_cons.mpr ⟨lw_p34, List.forall_mem_cons.mpr ⟨lw_p35, List.forall_mem_cons.mpr ⟨lw_p36, List.forall_mem_cons.mpr ⟨lw_p37, List.forall_mem_cons.mpr ⟨lw_p38, List.forall_mem_cons.mpr ⟨lw_p39, List.forall_mem_cons.mpr ⟨lw_p40, List.forall_mem_cons.mpr ⟨lw_p41, List.forall_mem_cons.mpr ⟨lw_p42, List.forall_mem_cons.mpr ⟨lw_p43, List.forall_mem_cons.mpr ⟨lw_p44, List.forall_mem_cons.mpr ⟨lw_p45, List.forall_mem_cons.mpr ⟨lw_p46, List.forall_mem_cons.mpr ⟨lw_p47, fun _ h => absurd h List.not_mem_nil⟩⟩⟩⟩⟩⟩⟩⟩⟩⟩⟩⟩⟩⟩⟩⟩
theorem lw_p48 : lw_okq (⟨"HotIron", "manyAs", "([I)I"⟩, 14) := ⟨⟨by decide +kernel, by decide +kernel⟩, List.mem_of_getElem? (i := 20) (by decide +kernel), List.mem_of_getElem? (i := 967) (by decide +kernel), List.mem_of_getElem? (i := 968) (by decide +kernel)⟩
theorem lw_p49 : lw_okq (⟨"HotIron$Gate", "search", "(LHotIron$Smithy;I)V"⟩, 10) := ⟨⟨by decide +kernel, by decide +kernel⟩, List.mem_of_getElem? (i := 182) (by decide +kernel), List.mem_of_getElem? (i := 988) (by decide +kernel), List.mem_of_getElem? (i := 989) (by decide +kernel)⟩
theorem lw_p50 : lw_okq (⟨"HotIron$Gate", "measureChains", "()V"⟩, 10) := ⟨⟨by decide +kernel, by decide +kernel⟩, List.mem_of_getElem? (i := 182) (by decide +kernel), List.mem_of_getElem? (i := 994) (by decide +kernel), List.mem_of_getElem? (i := 995) (by decide +kernel)⟩
theorem lw_p51 : lw_okq (⟨"HotIron$Gate", "place", "(IIIII)V"⟩, 10) := ⟨⟨by decide +kernel, by decide +kernel⟩, List.mem_of_getElem? (i := 182) (by decide +kernel), List.mem_of_getElem? (i := 1000) (by decide +kernel), List.mem_of_getElem? (i := 1001) (by decide +kernel)⟩
theorem lw_p52 : lw_okq (⟨"HotIron$Gate", "latestFree", "()I"⟩, 10) := ⟨⟨by decide +kernel, by decide +kernel⟩, List.mem_of_getElem? (i := 182) (by decide +kernel), List.mem_of_getElem? (i := 1004) (by decide +kernel), List.mem_of_getElem? (i := 1005) (by decide +kernel)⟩
theorem lw_p53 : lw_okq (⟨"HotIron$Gate", "freeFirst", "()I"⟩, 10) := ⟨⟨by decide +kernel, by decide +kernel⟩, List.mem_of_getElem? (i := 182) (by decide +kernel), List.mem_of_getElem? (i := 1008) (by decide +kernel), List.mem_of_getElem? (i := 1009) (by decide +kernel)⟩
theorem lw_p54 : lw_okq (⟨"HotIron$Gate", "bound", "(III)I"⟩, 10) := ⟨⟨by decide +kernel, by decide +kernel⟩, List.mem_of_getElem? (i := 182) (by decide +kernel), List.mem_of_getElem? (i := 1012) (by decide +kernel), List.mem_of_getElem? (i := 1013) (by decide +kernel)⟩
theorem lw_p55 : lw_okq (⟨"HotIron$Gate", "isReady", "(II)Z"⟩, 10) := ⟨⟨by decide +kernel, by decide +kernel⟩, List.mem_of_getElem? (i := 182) (by decide +kernel), List.mem_of_getElem? (i := 1016) (by decide +kernel), List.mem_of_getElem? (i := 1017) (by decide +kernel)⟩
theorem lw_p56 : lw_okq (⟨"HotIron$Gate", "earliest", "(II)I"⟩, 10) := ⟨⟨by decide +kernel, by decide +kernel⟩, List.mem_of_getElem? (i := 182) (by decide +kernel), List.mem_of_getElem? (i := 1020) (by decide +kernel), List.mem_of_getElem? (i := 1021) (by decide +kernel)⟩
theorem lw_p57 : lw_okq (⟨"HotIronModel", "tell", "(I)I"⟩, 67) := ⟨⟨by decide +kernel, by decide +kernel⟩, List.mem_of_getElem? (i := 1054) (by decide +kernel), List.mem_of_getElem? (i := 1271) (by decide +kernel), List.mem_of_getElem? (i := 1272) (by decide +kernel)⟩
theorem lw_p58 : lw_okq (⟨"HotIronModel", "forget", "()V"⟩, 67) := ⟨⟨by decide +kernel, by decide +kernel⟩, List.mem_of_getElem? (i := 1054) (by decide +kernel), List.mem_of_getElem? (i := 1279) (by decide +kernel), List.mem_of_getElem? (i := 1280) (by decide +kernel)⟩
theorem lw_p59 : lw_okq (⟨"HotIronModel", "put", "(III)I"⟩, 67) := ⟨⟨by decide +kernel, by decide +kernel⟩, List.mem_of_getElem? (i := 1054) (by decide +kernel), List.mem_of_getElem? (i := 1293) (by decide +kernel), List.mem_of_getElem? (i := 1294) (by decide +kernel)⟩
theorem lw_p60 : lw_okq (⟨"HotIronModel", "isCell", "(J)Z"⟩, 67) := ⟨⟨by decide +kernel, by decide +kernel⟩, List.mem_of_getElem? (i := 1054) (by decide +kernel), List.mem_of_getElem? (i := 1297) (by decide +kernel), List.mem_of_getElem? (i := 1298) (by decide +kernel)⟩
theorem lw_p61 : lw_okq (⟨"HotIronModel", "four", "(I)V"⟩, 67) := ⟨⟨by decide +kernel, by decide +kernel⟩, List.mem_of_getElem? (i := 1054) (by decide +kernel), List.mem_of_getElem? (i := 1328) (by decide +kernel), List.mem_of_getElem? (i := 1329) (by decide +kernel)⟩
theorem lw_p62 : lw_okq (⟨"HotIronModel", "begin", "()V"⟩, 67) := ⟨⟨by decide +kernel, by decide +kernel⟩, List.mem_of_getElem? (i := 1054) (by decide +kernel), List.mem_of_getElem? (i := 1344) (by decide +kernel), List.mem_of_getElem? (i := 1345) (by decide +kernel)⟩
theorem lw_p63 : lw_okq (⟨"HotIronModel", "next", "()V"⟩, 67) := ⟨⟨by decide +kernel, by decide +kernel⟩, List.mem_of_getElem? (i := 1054) (by decide +kernel), List.mem_of_getElem? (i := 1348) (by decide +kernel), List.mem_of_getElem? (i := 1349) (by decide +kernel)⟩
def lw_privs_4 : List (MethodName × Nat) := [(⟨"HotIron", "manyAs", "([I)I"⟩, 14), (⟨"HotIron$Gate", "search", "(LHotIron$Smithy;I)V"⟩, 10), (⟨"HotIron$Gate", "measureChains", "()V"⟩, 10), (⟨"HotIron$Gate", "place", "(IIIII)V"⟩, 10), (⟨"HotIron$Gate", "latestFree", "()I"⟩, 10), (⟨"HotIron$Gate", "freeFirst", "()I"⟩, 10), (⟨"HotIron$Gate", "bound", "(III)I"⟩, 10), (⟨"HotIron$Gate", "isReady", "(II)Z"⟩, 10), (⟨"HotIron$Gate", "earliest", "(II)I"⟩, 10), (⟨"HotIronModel", "tell", "(I)I"⟩, 67), (⟨"HotIronModel", "forget", "()V"⟩, 67), (⟨"HotIronModel", "put", "(III)I"⟩, 67), (⟨"HotIronModel", "isCell", "(J)Z"⟩, 67), (⟨"HotIronModel", "four", "(I)V"⟩, 67), (⟨"HotIronModel", "begin", "()V"⟩, 67), (⟨"HotIronModel", "next", "()V"⟩, 67)]
theorem lw_r4 : ∀ q ∈ lw_privs_4, lw_okq q := List.forall_mem_cons.mpr ⟨lw_p48, List.forall_mem_cons.mpr ⟨lw_p49, List.forall_mem_cons.mpr ⟨lw_p50, List.forall_mem_cons.mpr ⟨lw_p51, List.forall_mem_cons.mpr ⟨lw_p52, List.forall_mem_cons.mpr ⟨lw_p53, List.forall_mem_cons.mpr ⟨lw_p54, List.forall_mem_cons.mpr ⟨lw_p55, List.forall_mem_cons.mpr ⟨lw_p56, List.forall_mem_cons.mpr ⟨lw_p57, List.forall_mem_cons.mpr ⟨lw_p58, List.forall_mem_cons.mpr ⟨lw_p59, List.forall_mem_cons.mpr ⟨lw_p60, List.forall_mem_cons.mpr ⟨lw_p61, List.forall_mem_cons.mpr ⟨lw_p62, List.forall_mem_cons.mpr ⟨lw_p63, fun _ h => absurd h List.not_mem_nil⟩⟩⟩⟩⟩⟩⟩⟩⟩⟩⟩⟩⟩⟩⟩⟩
theorem lw_p64 : lw_okq (⟨"HotIronModel", "readStep", "()V"⟩, 67) := ⟨⟨by decide +kernel, by decide +kernel⟩, List.mem_of_getElem? (i := 1054) (by decide +kernel), List.mem_of_getElem? (i := 1364) (by decide +kernel), List.mem_of_getElem? (i := 1365) (by decide +kernel)⟩
theorem lw_p65 : lw_okq (⟨"HotIronModel", "sortAt", "()I"⟩, 67) := ⟨⟨by decide +kernel, by decide +kernel⟩, List.mem_of_getElem? (i := 1054) (by decide +kernel), List.mem_of_getElem? (i := 1368) (by decide +kernel), List.mem_of_getElem? (i := 1369) (by decide +kernel)⟩
theorem lw_p66 : lw_okq (⟨"HotIronModel", "isWord", "(J)Z"⟩, 67) := ⟨⟨by decide +kernel, by decide +kernel⟩, List.mem_of_getElem? (i := 1054) (by decide +kernel), List.mem_of_getElem? (i := 1373) (by decide +kernel), List.mem_of_getElem? (i := 1374) (by decide +kernel)⟩
theorem lw_p67 : lw_okq (⟨"HotIronModel", "must", "(Z)V"⟩, 67) := ⟨⟨by decide +kernel, by decide +kernel⟩, List.mem_of_getElem? (i := 1054) (by decide +kernel), List.mem_of_getElem? (i := 1382) (by decide +kernel), List.mem_of_getElem? (i := 1383) (by decide +kernel)⟩
theorem lw_p68 : lw_okq (⟨"HotIronModel", "wrong", "()V"⟩, 67) := ⟨⟨by decide +kernel, by decide +kernel⟩, List.mem_of_getElem? (i := 1054) (by decide +kernel), List.mem_of_getElem? (i := 1386) (by decide +kernel), List.mem_of_getElem? (i := 1387) (by decide +kernel)⟩
theorem lw_p69 : lw_okq (⟨"HotIronModel", "number", "(J)I"⟩, 67) := ⟨⟨by decide +kernel, by decide +kernel⟩, List.mem_of_getElem? (i := 1054) (by decide +kernel), List.mem_of_getElem? (i := 1391) (by decide +kernel), List.mem_of_getElem? (i := 1392) (by decide +kernel)⟩
theorem lw_p70 : lw_okq (⟨"HotIronModel", "readExpression", "(Z)V"⟩, 67) := ⟨⟨by decide +kernel, by decide +kernel⟩, List.mem_of_getElem? (i := 1054) (by decide +kernel), List.mem_of_getElem? (i := 1395) (by decide +kernel), List.mem_of_getElem? (i := 1396) (by decide +kernel)⟩
theorem lw_p71 : lw_okq (⟨"HotIronModel", "readPlain", "()I"⟩, 67) := ⟨⟨by decide +kernel, by decide +kernel⟩, List.mem_of_getElem? (i := 1054) (by decide +kernel), List.mem_of_getElem? (i := 1399) (by decide +kernel), List.mem_of_getElem? (i := 1400) (by decide +kernel)⟩
theorem lw_p72 : lw_okq (⟨"HotIronModel", "push", "(I)V"⟩, 67) := ⟨⟨by decide +kernel, by decide +kernel⟩, List.mem_of_getElem? (i := 1054) (by decide +kernel), List.mem_of_getElem? (i := 1404) (by decide +kernel), List.mem_of_getElem? (i := 1405) (by decide +kernel)⟩
theorem lw_p73 : lw_okq (⟨"HotIronModel", "isSign", "(I)Z"⟩, 67) := ⟨⟨by decide +kernel, by decide +kernel⟩, List.mem_of_getElem? (i := 1054) (by decide +kernel), List.mem_of_getElem? (i := 1408) (by decide +kernel), List.mem_of_getElem? (i := 1409) (by decide +kernel)⟩
theorem lw_p74 : lw_okq (⟨"HotIronModel", "open", "(ZI)V"⟩, 67) := ⟨⟨by decide +kernel, by decide +kernel⟩, List.mem_of_getElem? (i := 1054) (by decide +kernel), List.mem_of_getElem? (i := 1412) (by decide +kernel), List.mem_of_getElem? (i := 1413) (by decide +kernel)⟩
theorem lw_p75 : lw_okq (⟨"HotIronModel", "readPart", "()I"⟩, 67) := ⟨⟨by decide +kernel, by decide +kernel⟩, List.mem_of_getElem? (i := 1054) (by decide +kernel), List.mem_of_getElem? (i := 1416) (by decide +kernel), List.mem_of_getElem? (i := 1417) (by decide +kernel)⟩
theorem lw_p76 : lw_okq (⟨"HotIronModel", "wordAt", "()I"⟩, 67) := ⟨⟨by decide +kernel, by decide +kernel⟩, List.mem_of_getElem? (i := 1054) (by decide +kernel), List.mem_of_getElem? (i := 1422) (by decide +kernel), List.mem_of_getElem? (i := 1423) (by decide +kernel)⟩
theorem lw_p77 : lw_okq (⟨"HotIronModel", "emit", "(II)V"⟩, 67) := ⟨⟨by decide +kernel, by decide +kernel⟩, List.mem_of_getElem? (i := 1054) (by decide +kernel), List.mem_of_getElem? (i := 1430) (by decide +kernel), List.mem_of_getElem? (i := 1431) (by decide +kernel)⟩
theorem lw_p78 : lw_okq (⟨"HotIronModel", "behindSum", "(Z)I"⟩, 67) := ⟨⟨by decide +kernel, by decide +kernel⟩, List.mem_of_getElem? (i := 1054) (by decide +kernel), List.mem_of_getElem? (i := 1435) (by decide +kernel), List.mem_of_getElem? (i := 1436) (by decide +kernel)⟩
theorem lw_p79 : lw_okq (⟨"HotIronModel", "settle", "(I)V"⟩, 67) := ⟨⟨by decide +kernel, by decide +kernel⟩, List.mem_of_getElem? (i := 1054) (by decide +kernel), List.mem_of_getElem? (i := 1439) (by decide +kernel), List.mem_of_getElem? (i := 1440) (by decide +kernel)⟩
def lw_privs_5 : List (MethodName × Nat) := [(⟨"HotIronModel", "readStep", "()V"⟩, 67), (⟨"HotIronModel", "sortAt", "()I"⟩, 67), (⟨"HotIronModel", "isWord", "(J)Z"⟩, 67), (⟨"HotIronModel", "must", "(Z)V"⟩, 67), (⟨"HotIronModel", "wrong", "()V"⟩, 67), (⟨"HotIronModel", "number", "(J)I"⟩, 67), (⟨"HotIronModel", "readExpression", "(Z)V"⟩, 67), (⟨"HotIronModel", "readPlain", "()I"⟩, 67), (⟨"HotIronModel", "push", "(I)V"⟩, 67), (⟨"HotIronModel", "isSign", "(I)Z"⟩, 67), (⟨"HotIronModel", "open", "(ZI)V"⟩, 67), (⟨"HotIronModel", "readPart", "()I"⟩, 67), (⟨"HotIronModel", "wordAt", "()I"⟩, 67), (⟨"HotIronModel", "emit", "(II)V"⟩, 67), (⟨"HotIronModel", "behindSum", "(Z)I"⟩, 67), (⟨"HotIronModel", "settle", "(I)V"⟩, 67)]
theorem lw_r5 : ∀ q ∈ lw_privs_5, lw_okq q := List.forall_mem_cons.mpr ⟨lw_p64, List.forall_mem_cons.mpr ⟨lw_p65, List.forall_mem_cons.mpr ⟨lw_p66, List.forall_mem_cons.mpr ⟨lw_p67, List.forall_mem_cons.mpr ⟨lw_p68, List.forall_mem_cons.mpr ⟨lw_p69, List.forall_mem_cons.mpr ⟨lw_p70, List.forall_mem_cons.mpr ⟨lw_p71, List.forall_mem_cons.mpr ⟨lw_p72, List.forall_mem_cons.mpr ⟨lw_p73, List.forall_mem_cons.mpr ⟨lw_p74, List.forall_mem_cons.mpr ⟨lw_p75, List.forall_mem_cons.mpr ⟨lw_p76, List.forall_mem_cons.mpr ⟨lw_p77, List.forall_mem_cons.mpr ⟨lw_p78, List.forall_mem_cons.mpr ⟨lw_p79, fun _ h => absurd h List.not_mem_nil⟩⟩⟩⟩⟩⟩⟩⟩⟩⟩⟩⟩⟩⟩⟩⟩
theorem lw_p80 : lw_okq (⟨"HotIronModel", "inner", "()I"⟩, 67) := ⟨⟨by decide +kernel, by decide +kernel⟩, List.mem_of_getElem? (i := 1054) (by decide +kernel), List.mem_of_getElem? (i := 1446) (by decide +kernel), List.mem_of_getElem? (i := 1447) (by decide +kernel)⟩
theorem lw_p81 : lw_okq (⟨"HotIronModel", "isCompared", "()Z"⟩, 67) := ⟨⟨by decide +kernel, by decide +kernel⟩, List.mem_of_getElem? (i := 1054) (by decide +kernel), List.mem_of_getElem? (i := 1450) (by decide +kernel), List.mem_of_getElem? (i := 1451) (by decide +kernel)⟩
theorem lw_p82 : lw_okq (⟨"HotIronModel", "behindTest", "()I"⟩, 67) := ⟨⟨by decide +kernel, by decide +kernel⟩, List.mem_of_getElem? (i := 1054) (by decide +kernel), List.mem_of_getElem? (i := 1458) (by decide +kernel), List.mem_of_getElem? (i := 1459) (by decide +kernel)⟩
theorem lw_p83 : lw_okq (⟨"HotIronModel", "isRecipe", "(I)Z"⟩, 67) := ⟨⟨by decide +kernel, by decide +kernel⟩, List.mem_of_getElem? (i := 1054) (by decide +kernel), List.mem_of_getElem? (i := 1470) (by decide +kernel), List.mem_of_getElem? (i := 1471) (by decide +kernel)⟩
theorem lw_p84 : lw_okq (⟨"HotIronModel", "goThrough", "(II)V"⟩, 67) := ⟨⟨by decide +kernel, by decide +kernel⟩, List.mem_of_getElem? (i := 1054) (by decide +kernel), List.mem_of_getElem? (i := 1478) (by decide +kernel), List.mem_of_getElem? (i := 1479) (by decide +kernel)⟩
theorem lw_p85 : lw_okq (⟨"HotIronModel", "rest0", "()V"⟩, 67) := ⟨⟨by decide +kernel, by decide +kernel⟩, List.mem_of_getElem? (i := 1054) (by decide +kernel), List.mem_of_getElem? (i := 1482) (by decide +kernel), List.mem_of_getElem? (i := 1483) (by decide +kernel)⟩
theorem lw_p86 : lw_okq (⟨"HotIronModel", "reckon", "(III)I"⟩, 67) := ⟨⟨by decide +kernel, by decide +kernel⟩, List.mem_of_getElem? (i := 1054) (by decide +kernel), List.mem_of_getElem? (i := 1486) (by decide +kernel), List.mem_of_getElem? (i := 1487) (by decide +kernel)⟩
theorem lw_p87 : lw_okq (⟨"HotIronModel", "doStep", "(II)Z"⟩, 67) := ⟨⟨by decide +kernel, by decide +kernel⟩, List.mem_of_getElem? (i := 1054) (by decide +kernel), List.mem_of_getElem? (i := 1493) (by decide +kernel), List.mem_of_getElem? (i := 1494) (by decide +kernel)⟩
theorem lw_p88 : lw_okq (⟨"HotIronModel", "fire", "(I)Z"⟩, 67) := ⟨⟨by decide +kernel, by decide +kernel⟩, List.mem_of_getElem? (i := 1054) (by decide +kernel), List.mem_of_getElem? (i := 1497) (by decide +kernel), List.mem_of_getElem? (i := 1498) (by decide +kernel)⟩
theorem lw_p89 : lw_okq (⟨"HotIronModel", "lose", "(I)V"⟩, 67) := ⟨⟨by decide +kernel, by decide +kernel⟩, List.mem_of_getElem? (i := 1054) (by decide +kernel), List.mem_of_getElem? (i := 1504) (by decide +kernel), List.mem_of_getElem? (i := 1505) (by decide +kernel)⟩
theorem lw_p90 : lw_okq (⟨"HotIronModel", "strike", "(II)V"⟩, 67) := ⟨⟨by decide +kernel, by decide +kernel⟩, List.mem_of_getElem? (i := 1054) (by decide +kernel), List.mem_of_getElem? (i := 1508) (by decide +kernel), List.mem_of_getElem? (i := 1509) (by decide +kernel)⟩
theorem lw_p91 : lw_okq (⟨"HotIronModel", "isHot", "(I)Z"⟩, 67) := ⟨⟨by decide +kernel, by decide +kernel⟩, List.mem_of_getElem? (i := 1054) (by decide +kernel), List.mem_of_getElem? (i := 1512) (by decide +kernel), List.mem_of_getElem? (i := 1513) (by decide +kernel)⟩
theorem lw_p92 : lw_okq (⟨"HotIronModel", "uses", "(ZI)Z"⟩, 67) := ⟨⟨by decide +kernel, by decide +kernel⟩, List.mem_of_getElem? (i := 1054) (by decide +kernel), List.mem_of_getElem? (i := 1516) (by decide +kernel), List.mem_of_getElem? (i := 1517) (by decide +kernel)⟩
theorem lw_p93 : lw_okq (⟨"HotIronModel", "draw", "(I)I"⟩, 67) := ⟨⟨by decide +kernel, by decide +kernel⟩, List.mem_of_getElem? (i := 1054) (by decide +kernel), List.mem_of_getElem? (i := 1520) (by decide +kernel), List.mem_of_getElem? (i := 1521) (by decide +kernel)⟩
theorem lw_p94 : lw_okq (⟨"HotIronModel", "punch", "(I)V"⟩, 67) := ⟨⟨by decide +kernel, by decide +kernel⟩, List.mem_of_getElem? (i := 1054) (by decide +kernel), List.mem_of_getElem? (i := 1527) (by decide +kernel), List.mem_of_getElem? (i := 1528) (by decide +kernel)⟩
theorem lw_p95 : lw_okq (⟨"HotIronModel", "weld", "(I)V"⟩, 67) := ⟨⟨by decide +kernel, by decide +kernel⟩, List.mem_of_getElem? (i := 1054) (by decide +kernel), List.mem_of_getElem? (i := 1531) (by decide +kernel), List.mem_of_getElem? (i := 1532) (by decide +kernel)⟩
def lw_privs_6 : List (MethodName × Nat) := [(⟨"HotIronModel", "inner", "()I"⟩, 67), (⟨"HotIronModel", "isCompared", "()Z"⟩, 67), (⟨"HotIronModel", "behindTest", "()I"⟩, 67), (⟨"HotIronModel", "isRecipe", "(I)Z"⟩, 67), (⟨"HotIronModel", "goThrough", "(II)V"⟩, 67), (⟨"HotIronModel", "rest0", "()V"⟩, 67), (⟨"HotIronModel", "reckon", "(III)I"⟩, 67), (⟨"HotIronModel", "doStep", "(II)Z"⟩, 67), (⟨"HotIronModel", "fire", "(I)Z"⟩, 67), (⟨"HotIronModel", "lose", "(I)V"⟩, 67), (⟨"HotIronModel", "strike", "(II)V"⟩, 67), (⟨"HotIronModel", "isHot", "(I)Z"⟩, 67), (⟨"HotIronModel", "uses", "(ZI)Z"⟩, 67), (⟨"HotIronModel", "draw", "(I)I"⟩, 67), (⟨"HotIronModel", "punch", "(I)V"⟩, 67), (⟨"HotIronModel", "weld", "(I)V"⟩, 67)]
theorem lw_r6 : ∀ q ∈ lw_privs_6, lw_okq q := List.forall_mem_cons.mpr ⟨lw_p80, List.forall_mem_cons.mpr ⟨lw_p81, List.forall_mem_cons.mpr ⟨lw_p82, List.forall_mem_cons.mpr ⟨lw_p83, List.forall_mem_cons.mpr ⟨lw_p84, List.forall_mem_cons.mpr ⟨lw_p85, List.forall_mem_cons.mpr ⟨lw_p86, List.forall_mem_cons.mpr ⟨lw_p87, List.forall_mem_cons.mpr ⟨lw_p88, List.forall_mem_cons.mpr ⟨lw_p89, List.forall_mem_cons.mpr ⟨lw_p90, List.forall_mem_cons.mpr ⟨lw_p91, List.forall_mem_cons.mpr ⟨lw_p92, List.forall_mem_cons.mpr ⟨lw_p93, List.forall_mem_cons.mpr ⟨lw_p94, List.forall_mem_cons.mpr ⟨lw_p95, fun _ h => absurd h List.not_mem_nil⟩⟩⟩⟩⟩⟩⟩⟩⟩⟩⟩⟩⟩⟩⟩⟩
theorem lw_p96 : lw_okq (⟨"HotIronModel", "keepIron", "()V"⟩, 67) := ⟨⟨by decide +kernel, by decide +kernel⟩, List.mem_of_getElem? (i := 1054) (by decide +kernel), List.mem_of_getElem? (i := 1552) (by decide +kernel), List.mem_of_getElem? (i := 1553) (by decide +kernel)⟩
theorem lw_p97 : lw_okq (⟨"HotIronModel", "apart", "(I)I"⟩, 67) := ⟨⟨by decide +kernel, by decide +kernel⟩, List.mem_of_getElem? (i := 1054) (by decide +kernel), List.mem_of_getElem? (i := 1556) (by decide +kernel), List.mem_of_getElem? (i := 1557) (by decide +kernel)⟩
theorem lw_p98 : lw_okq (⟨"HotIronModel", "findWeights", "()V"⟩, 67) := ⟨⟨by decide +kernel, by decide +kernel⟩, List.mem_of_getElem? (i := 1054) (by decide +kernel), List.mem_of_getElem? (i := 1574) (by decide +kernel), List.mem_of_getElem? (i := 1575) (by decide +kernel)⟩
theorem lw_p99 : lw_okq (⟨"HotIronModel", "rowAt", "(I)I"⟩, 67) := ⟨⟨by decide +kernel, by decide +kernel⟩, List.mem_of_getElem? (i := 1054) (by decide +kernel), List.mem_of_getElem? (i := 1578) (by decide +kernel), List.mem_of_getElem? (i := 1579) (by decide +kernel)⟩
theorem lw_p100 : lw_okq (⟨"HotIronModel", "findLevels", "(IIII)I"⟩, 67) := ⟨⟨by decide +kernel, by decide +kernel⟩, List.mem_of_getElem? (i := 1054) (by decide +kernel), List.mem_of_getElem? (i := 1582) (by decide +kernel), List.mem_of_getElem? (i := 1583) (by decide +kernel)⟩
theorem lw_p101 : lw_okq (⟨"HotIronModel", "findSpread", "(III)V"⟩, 67) := ⟨⟨by decide +kernel, by decide +kernel⟩, List.mem_of_getElem? (i := 1054) (by decide +kernel), List.mem_of_getElem? (i := 1586) (by decide +kernel), List.mem_of_getElem? (i := 1587) (by decide +kernel)⟩
theorem lw_p102 : lw_okq (⟨"HotIronModel", "ironOf", "(II)I"⟩, 67) := ⟨⟨by decide +kernel, by decide +kernel⟩, List.mem_of_getElem? (i := 1054) (by decide +kernel), List.mem_of_getElem? (i := 1590) (by decide +kernel), List.mem_of_getElem? (i := 1591) (by decide +kernel)⟩
theorem lw_p103 : lw_okq (⟨"HotIronModel", "reach", "(I)V"⟩, 67) := ⟨⟨by decide +kernel, by decide +kernel⟩, List.mem_of_getElem? (i := 1054) (by decide +kernel), List.mem_of_getElem? (i := 1594) (by decide +kernel), List.mem_of_getElem? (i := 1595) (by decide +kernel)⟩
theorem lw_p104 : lw_okq (⟨"HotIronModel", "moveAll", "(II)V"⟩, 67) := ⟨⟨by decide +kernel, by decide +kernel⟩, List.mem_of_getElem? (i := 1054) (by decide +kernel), List.mem_of_getElem? (i := 1598) (by decide +kernel), List.mem_of_getElem? (i := 1599) (by decide +kernel)⟩
theorem lw_p105 : lw_okq (⟨"HotIronModel", "findPlan", "()V"⟩, 67) := ⟨⟨by decide +kernel, by decide +kernel⟩, List.mem_of_getElem? (i := 1054) (by decide +kernel), List.mem_of_getElem? (i := 1606) (by decide +kernel), List.mem_of_getElem? (i := 1607) (by decide +kernel)⟩
theorem lw_p106 : lw_okq (⟨"HotIronModel", "findToGo", "(I)V"⟩, 67) := ⟨⟨by decide +kernel, by decide +kernel⟩, List.mem_of_getElem? (i := 1054) (by decide +kernel), List.mem_of_getElem? (i := 1610) (by decide +kernel), List.mem_of_getElem? (i := 1611) (by decide +kernel)⟩
theorem lw_p107 : lw_okq (⟨"HotIronModel", "leads", "(II[II)Z"⟩, 67) := ⟨⟨by decide +kernel, by decide +kernel⟩, List.mem_of_getElem? (i := 1054) (by decide +kernel), List.mem_of_getElem? (i := 1614) (by decide +kernel), List.mem_of_getElem? (i := 1615) (by decide +kernel)⟩
theorem lw_p108 : lw_okq (⟨"HotIronModel", "chooseCell", "(I)V"⟩, 67) := ⟨⟨by decide +kernel, by decide +kernel⟩, List.mem_of_getElem? (i := 1054) (by decide +kernel), List.mem_of_getElem? (i := 1618) (by decide +kernel), List.mem_of_getElem? (i := 1619) (by decide +kernel)⟩
theorem lw_p109 : lw_okq (⟨"HotIronModel", "doneBy", "(I)I"⟩, 67) := ⟨⟨by decide +kernel, by decide +kernel⟩, List.mem_of_getElem? (i := 1054) (by decide +kernel), List.mem_of_getElem? (i := 1643) (by decide +kernel), List.mem_of_getElem? (i := 1644) (by decide +kernel)⟩
theorem lw_p110 : lw_okq (⟨"HotIronModel", "nextOrder", "()Z"⟩, 67) := ⟨⟨by decide +kernel, by decide +kernel⟩, List.mem_of_getElem? (i := 1054) (by decide +kernel), List.mem_of_getElem? (i := 1647) (by decide +kernel), List.mem_of_getElem? (i := 1648) (by decide +kernel)⟩
theorem lw_p111 : lw_okq (⟨"HotIronModel", "exchange", "(II)V"⟩, 67) := ⟨⟨by decide +kernel, by decide +kernel⟩, List.mem_of_getElem? (i := 1054) (by decide +kernel), List.mem_of_getElem? (i := 1651) (by decide +kernel), List.mem_of_getElem? (i := 1652) (by decide +kernel)⟩
def lw_privs_7 : List (MethodName × Nat) := [(⟨"HotIronModel", "keepIron", "()V"⟩, 67), (⟨"HotIronModel", "apart", "(I)I"⟩, 67), (⟨"HotIronModel", "findWeights", "()V"⟩, 67), (⟨"HotIronModel", "rowAt", "(I)I"⟩, 67), (⟨"HotIronModel", "findLevels", "(IIII)I"⟩, 67), (⟨"HotIronModel", "findSpread", "(III)V"⟩, 67), (⟨"HotIronModel", "ironOf", "(II)I"⟩, 67), (⟨"HotIronModel", "reach", "(I)V"⟩, 67), (⟨"HotIronModel", "moveAll", "(II)V"⟩, 67), (⟨"HotIronModel", "findPlan", "()V"⟩, 67), (⟨"HotIronModel", "findToGo", "(I)V"⟩, 67), (⟨"HotIronModel", "leads", "(II[II)Z"⟩, 67), (⟨"HotIronModel", "chooseCell", "(I)V"⟩, 67), (⟨"HotIronModel", "doneBy", "(I)I"⟩, 67), (⟨"HotIronModel", "nextOrder", "()Z"⟩, 67), (⟨"HotIronModel", "exchange", "(II)V"⟩, 67)]
theorem lw_r7 : ∀ q ∈ lw_privs_7, lw_okq q := List.forall_mem_cons.mpr ⟨lw_p96, List.forall_mem_cons.mpr ⟨lw_p97, List.forall_mem_cons.mpr ⟨lw_p98, List.forall_mem_cons.mpr ⟨lw_p99, List.forall_mem_cons.mpr ⟨lw_p100, List.forall_mem_cons.mpr ⟨lw_p101, List.forall_mem_cons.mpr ⟨lw_p102, List.forall_mem_cons.mpr ⟨lw_p103, List.forall_mem_cons.mpr ⟨lw_p104, List.forall_mem_cons.mpr ⟨lw_p105, List.forall_mem_cons.mpr ⟨lw_p106, List.forall_mem_cons.mpr ⟨lw_p107, List.forall_mem_cons.mpr ⟨lw_p108, List.forall_mem_cons.mpr ⟨lw_p109, List.forall_mem_cons.mpr ⟨lw_p110, List.forall_mem_cons.mpr ⟨lw_p111, fun _ h => absurd h List.not_mem_nil⟩⟩⟩⟩⟩⟩⟩⟩⟩⟩⟩⟩⟩⟩⟩⟩
def lw_privs : List (MethodName × Nat) := lw_privs_1 ++ (lw_privs_2 ++ (lw_privs_3 ++ (lw_privs_4 ++ (lw_privs_5 ++ (lw_privs_6 ++ (lw_privs_7))))))
def lw_tbl : List Cond := k2_sels lw_privs ++ tables_1
theorem lw_privs_ok : ∀ q ∈ lw_privs, lw_okq q := by
  show ∀ q ∈ lw_privs_1 ++ (lw_privs_2 ++ (lw_privs_3 ++ (lw_privs_4 ++ (lw_privs_5 ++ (lw_privs_6 ++ (lw_privs_7)))))), lw_okq q
  exact List.forall_mem_append.mpr ⟨lw_r1, List.forall_mem_append.mpr ⟨lw_r2, List.forall_mem_append.mpr ⟨lw_r3, List.forall_mem_append.mpr ⟨lw_r4, List.forall_mem_append.mpr ⟨lw_r5, List.forall_mem_append.mpr ⟨lw_r6, lw_r7⟩⟩⟩⟩⟩⟩
def RX0 : String := "HotIron$Forge"
def TX0 : u_T := fun k => match k with
  | 0 => ("HotIron$Forge", "cells", "I", true)
  | 1 => ("HotIron$Forge", "words", "I", true)
  | 2 => ("HotIron$Forge", "weight", "[I", true)
  | 3 => ("HotIron$Forge", "giving", "[[J", true)
  | 4 => ("HotIron$Forge", "taking", "[[J", true)
  | 5 => ("HotIron$Forge", "heatable", "[[J", true)
  | 6 => ("HotIron$Forge", "heatableFor", "I", false)
  | 7 => ("HotIron$Forge", "front", "[J", true)
  | 8 => ("HotIron$Forge", "next", "[J", true)
  | _ => ("HotIron$Forge", "between", "[J", true)
def tyX0 : Nat → FieldType := fun k => match k with
  | 0 => .int
  | 1 => .int
  | 2 => .array .int
  | 3 => .array (.array .long)
  | 4 => .array (.array .long)
  | 5 => .array (.array .long)
  | 6 => .int
  | 7 => .array .long
  | 8 => .array .long
  | _ => .array .long
abbrev wsX00 : List Cond := u_ws RX0 TX0 10
theorem nmX0 : ∀ a, a < 10 → ∀ b, b < 10 → a ≠ b → (TX0 a).2.1 ≠ (TX0 b).2.1 := by decide +kernel
theorem tyX0_ok : ∀ k, k < 10 → parseFieldDescriptor (TX0 k).2.2.1 = some (tyX0 k) := by decide +kernel
abbrev cX0_init : ByteArray := prog_2_method_1_code
def yX0_init : MethodName := ⟨RX0, "<init>", "(I)V"⟩
abbrev cX0_numberOf : ByteArray := prog_2_method_2_code
def yX0_numberOf : MethodName := ⟨RX0, "numberOf", "([I)I"⟩
abbrev cX0_ironIn : ByteArray := prog_2_method_3_code
def yX0_ironIn : MethodName := ⟨RX0, "ironIn", "(II)I"⟩
abbrev cX0_takeTongs : ByteArray := prog_2_method_4_code
def yX0_takeTongs : MethodName := ⟨RX0, "takeTongs", "(I)V"⟩
abbrev cX0_follow : ByteArray := prog_2_method_5_code
def yX0_follow : MethodName := ⟨RX0, "follow", "([JII[J)V"⟩
abbrev cX0_trace : ByteArray := prog_2_method_6_code
def yX0_trace : MethodName := ⟨RX0, "trace", "([JII[J)V"⟩
abbrev cX0_addAll : ByteArray := prog_2_method_7_code
def yX0_addAll : MethodName := ⟨RX0, "addAll", "([J[J)V"⟩
abbrev cX0_keepCommon : ByteArray := prog_2_method_8_code
def yX0_keepCommon : MethodName := ⟨RX0, "keepCommon", "([J[J)Z"⟩
abbrev cX0_meet : ByteArray := prog_2_method_9_code
def yX0_meet : MethodName := ⟨RX0, "meet", "([J[J)Z"⟩
abbrev cX0_sizeOf : ByteArray := prog_2_method_10_code
def yX0_sizeOf : MethodName := ⟨RX0, "sizeOf", "([J)I"⟩
abbrev cX0_lowestIn : ByteArray := prog_2_method_11_code
def yX0_lowestIn : MethodName := ⟨RX0, "lowestIn", "([J)I"⟩
abbrev cX0_setOnly : ByteArray := prog_2_method_12_code
def yX0_setOnly : MethodName := ⟨RX0, "setOnly", "([JI)V"⟩
abbrev cX0_heat : ByteArray := prog_2_method_13_code
def yX0_heat : MethodName := ⟨RX0, "heat", "([JI[J)V"⟩
abbrev cX0_unheat : ByteArray := prog_2_method_14_code
def yX0_unheat : MethodName := ⟨RX0, "unheat", "([JI[J)V"⟩
abbrev cX0_spread : ByteArray := prog_2_method_15_code
def yX0_spread : MethodName := ⟨RX0, "spread", "([JII)V"⟩
abbrev cX0_shift : ByteArray := prog_2_method_16_code
def yX0_shift : MethodName := ⟨RX0, "shift", "([J[J[JI[J)V"⟩
abbrev cX0_findRows : ByteArray := prog_2_method_17_code
def yX0_findRows : MethodName := ⟨RX0, "findRows", "(II[J)V"⟩
abbrev cX0_setBits : ByteArray := prog_2_method_18_code
def yX0_setBits : MethodName := ⟨RX0, "setBits", "([JII)V"⟩
def RX1 : String := "HotIron$Gate"
def TX1 : u_T := fun k => match k with
  | 0 => ("HotIron$Gate", "minutes", "[I", true)
  | 1 => ("HotIron$Gate", "need", "[I", true)
  | 2 => ("HotIron$Gate", "chain", "[I", true)
  | 3 => ("HotIron$Gate", "begins", "[I", true)
  | 4 => ("HotIron$Gate", "ends", "[I", true)
  | 5 => ("HotIron$Gate", "free", "[I", true)
  | 6 => ("HotIron$Gate", "done", "[I", true)
  | 7 => ("HotIron$Gate", "chosen", "[[I", true)
  | 8 => ("HotIron$Gate", "pieces", "I", false)
  | _ => ("HotIron$Gate", "fires", "I", false)
def tyX1 : Nat → FieldType := fun k => match k with
  | 0 => .array .int
  | 1 => .array .int
  | 2 => .array .int
  | 3 => .array .int
  | 4 => .array .int
  | 5 => .array .int
  | 6 => .array .int
  | 7 => .array (.array .int)
  | 8 => .int
  | _ => .int
abbrev wsX10 : List Cond := u_ws RX1 TX1 10
theorem nmX1 : ∀ a, a < 10 → ∀ b, b < 10 → a ≠ b → (TX1 a).2.1 ≠ (TX1 b).2.1 := by decide +kernel
theorem tyX1_ok : ∀ k, k < 10 → parseFieldDescriptor (TX1 k).2.2.1 = some (tyX1 k) := by decide +kernel
abbrev cX1_init : ByteArray := prog_3_method_1_code
def yX1_init : MethodName := ⟨RX1, "<init>", "()V"⟩
abbrev cX1_forget : ByteArray := prog_3_method_2_code
def yX1_forget : MethodName := ⟨RX1, "forget", "()V"⟩
abbrev cX1_told : ByteArray := prog_3_method_3_code
def yX1_told : MethodName := ⟨RX1, "told", "(LHotIron$Smithy;II)I"⟩
abbrev cX1_search : ByteArray := prog_3_method_4_code
def yX1_search : MethodName := ⟨RX1, "search", "(LHotIron$Smithy;I)V"⟩
abbrev cX1_measureChains : ByteArray := prog_3_method_5_code
def yX1_measureChains : MethodName := ⟨RX1, "measureChains", "()V"⟩
abbrev cX1_place : ByteArray := prog_3_method_6_code
def yX1_place : MethodName := ⟨RX1, "place", "(IIIII)V"⟩
abbrev cX1_bound : ByteArray := prog_3_method_7_code
def yX1_bound : MethodName := ⟨RX1, "bound", "(III)I"⟩
abbrev cX1_isReady : ByteArray := prog_3_method_8_code
def yX1_isReady : MethodName := ⟨RX1, "isReady", "(II)Z"⟩
abbrev cX1_earliest : ByteArray := prog_3_method_9_code
def yX1_earliest : MethodName := ⟨RX1, "earliest", "(II)I"⟩
abbrev cX1_latestFree : ByteArray := prog_3_method_10_code
def yX1_latestFree : MethodName := ⟨RX1, "latestFree", "()I"⟩
abbrev cX1_freeFirst : ByteArray := prog_3_method_11_code
def yX1_freeFirst : MethodName := ⟨RX1, "freeFirst", "()I"⟩
def RX2 : String := "HotIron$Levels"
def TX2 : u_T := fun k => match k with
  | 0 => ("HotIron$Levels", "forge", "LHotIron$Forge;", true)
  | 1 => ("HotIron$Levels", "onward", "Z", true)
  | 2 => ("HotIron$Levels", "level", "[[J", true)
  | 3 => ("HotIron$Levels", "work", "[J", true)
  | 4 => ("HotIron$Levels", "known", "I", false)
  | 5 => ("HotIron$Levels", "root", "I", false)
  | 6 => ("HotIron$Levels", "numbers", "I", false)
  | _ => ("HotIron$Levels", "blows", "I", false)
def tyX2 : Nat → FieldType := fun k => match k with
  | 0 => .object "HotIron$Forge"
  | 1 => .boolean
  | 2 => .array (.array .long)
  | 3 => .array .long
  | 4 => .int
  | 5 => .int
  | 6 => .int
  | _ => .int
abbrev wsX20 : List Cond := u_ws RX2 TX2 8
theorem nmX2 : ∀ a, a < 8 → ∀ b, b < 8 → a ≠ b → (TX2 a).2.1 ≠ (TX2 b).2.1 := by decide +kernel
theorem tyX2_ok : ∀ k, k < 8 → parseFieldDescriptor (TX2 k).2.2.1 = some (tyX2 k) := by decide +kernel
abbrev cX2_init : ByteArray := prog_4_method_1_code
def yX2_init : MethodName := ⟨RX2, "<init>", "(LHotIron$Forge;ZI)V"⟩
abbrev cX2_aim : ByteArray := prog_4_method_2_code
def yX2_aim : MethodName := ⟨RX2, "aim", "(III)V"⟩
abbrev cX2_at : ByteArray := prog_4_method_3_code
def yX2_at : MethodName := ⟨RX2, "at", "(I)[J"⟩
def RX3 : String := "HotIron$Planner"
def TX3 : u_T := fun k => match k with
  | 0 => ("HotIron$Planner", "forge", "LHotIron$Forge;", true)
  | 1 => ("HotIron$Planner", "ahead", "LHotIron$Levels;", true)
  | 2 => ("HotIron$Planner", "behind", "LHotIron$Levels;", true)
  | 3 => ("HotIron$Planner", "otherAhead", "LHotIron$Levels;", true)
  | 4 => ("HotIron$Planner", "otherBehind", "LHotIron$Levels;", true)
  | 5 => ("HotIron$Planner", "path", "[[J", true)
  | 6 => ("HotIron$Planner", "work", "[J", true)
  | 7 => ("HotIron$Planner", "planCell", "[I", true)
  | 8 => ("HotIron$Planner", "planRow", "[I", true)
  | 9 => ("HotIron$Planner", "planHeats", "I", false)
  | 10 => ("HotIron$Planner", "planKey", "J", false)
  | 11 => ("HotIron$Planner", "evenIron", "I", false)
  | _ => ("HotIron$Planner", "evenKey", "J", false)
def tyX3 : Nat → FieldType := fun k => match k with
  | 0 => .object "HotIron$Forge"
  | 1 => .object "HotIron$Levels"
  | 2 => .object "HotIron$Levels"
  | 3 => .object "HotIron$Levels"
  | 4 => .object "HotIron$Levels"
  | 5 => .array (.array .long)
  | 6 => .array .long
  | 7 => .array .int
  | 8 => .array .int
  | 9 => .int
  | 10 => .long
  | 11 => .int
  | _ => .long
abbrev wsX30 : List Cond := u_ws RX3 TX3 13
theorem nmX3 : ∀ a, a < 13 → ∀ b, b < 13 → a ≠ b → (TX3 a).2.1 ≠ (TX3 b).2.1 := by decide +kernel
theorem tyX3_ok : ∀ k, k < 13 → parseFieldDescriptor (TX3 k).2.2.1 = some (tyX3 k) := by decide +kernel
abbrev cX3_init : ByteArray := prog_5_method_1_code
def yX3_init : MethodName := ⟨RX3, "<init>", "(I)V"⟩
abbrev cX3_fewestHeats : ByteArray := prog_5_method_2_code
def yX3_fewestHeats : MethodName := ⟨RX3, "fewestHeats", "(LHotIron$Smithy;)I"⟩
abbrev cX3_planned : ByteArray := prog_5_method_3_code
def yX3_planned : MethodName := ⟨RX3, "planned", "(II)I"⟩
abbrev cX3_rowsBehind : ByteArray := prog_5_method_4_code
def yX3_rowsBehind : MethodName := ⟨RX3, "rowsBehind", "(LHotIron$Smithy;I)I"⟩
abbrev cX3_leastEven : ByteArray := prog_5_method_5_code
def yX3_leastEven : MethodName := ⟨RX3, "leastEven", "(LHotIron$Smithy;)I"⟩
abbrev cX3_savedByBlow : ByteArray := prog_5_method_6_code
def yX3_savedByBlow : MethodName := ⟨RX3, "savedByBlow", "(LHotIron$Smithy;)I"⟩
abbrev cX3_aimAt : ByteArray := prog_5_method_7_code
def yX3_aimAt : MethodName := ⟨RX3, "aimAt", "(LHotIron$Smithy;)V"⟩
abbrev cX3_keyOf : ByteArray := prog_5_method_8_code
def yX3_keyOf : MethodName := ⟨RX3, "keyOf", "(IIII)J"⟩
abbrev cX3_fewest : ByteArray := prog_5_method_9_code
def yX3_fewest : MethodName := ⟨RX3, "fewest", "(LHotIron$Levels;LHotIron$Levels;I)I"⟩
abbrev cX3_layPlan : ByteArray := prog_5_method_10_code
def yX3_layPlan : MethodName := ⟨RX3, "layPlan", "(LHotIron$Smithy;)V"⟩
abbrev cX3_chooseCells : ByteArray := prog_5_method_11_code
def yX3_chooseCells : MethodName := ⟨RX3, "chooseCells", "(II)V"⟩
abbrev cX3_trimPath : ByteArray := prog_5_method_12_code
def yX3_trimPath : MethodName := ⟨RX3, "trimPath", "(I)V"⟩
abbrev cX3_chooseRows : ByteArray := prog_5_method_13_code
def yX3_chooseRows : MethodName := ⟨RX3, "chooseRows", "(II)V"⟩
def RX4 : String := "HotIron$Reader"
def TX4 : u_T := fun k => match k with
  | 0 => ("HotIron$Reader", "code", "[I", true)
  | 1 => ("HotIron$Reader", "codeLength", "I", false)
  | 2 => ("HotIron$Reader", "start", "[I", true)
  | 3 => ("HotIron$Reader", "kind", "[I", true)
  | 4 => ("HotIron$Reader", "length", "I", false)
  | 5 => ("HotIron$Reader", "fault", "I", false)
  | 6 => ("HotIron$Reader", "token", "[I", true)
  | 7 => ("HotIron$Reader", "place", "[I", true)
  | 8 => ("HotIron$Reader", "at", "I", false)
  | 9 => ("HotIron$Reader", "parts", "I", false)
  | _ => ("HotIron$Reader", "brackets", "I", false)
def tyX4 : Nat → FieldType := fun k => match k with
  | 0 => .array .int
  | 1 => .int
  | 2 => .array .int
  | 3 => .array .int
  | 4 => .int
  | 5 => .int
  | 6 => .array .int
  | 7 => .array .int
  | 8 => .int
  | 9 => .int
  | _ => .int
abbrev wsX40 : List Cond := u_ws RX4 TX4 11
theorem nmX4 : ∀ a, a < 11 → ∀ b, b < 11 → a ≠ b → (TX4 a).2.1 ≠ (TX4 b).2.1 := by decide +kernel
theorem tyX4_ok : ∀ k, k < 11 → parseFieldDescriptor (TX4 k).2.2.1 = some (tyX4 k) := by decide +kernel
abbrev cX4_init : ByteArray := prog_6_method_1_code
def yX4_init : MethodName := ⟨RX4, "<init>", "()V"⟩
abbrev cX4_understands : ByteArray := prog_6_method_2_code
def yX4_understands : MethodName := ⟨RX4, "understands", "([BI)Z"⟩
abbrev cX4_splitTokens : ByteArray := prog_6_method_3_code
def yX4_splitTokens : MethodName := ⟨RX4, "splitTokens", "([BI)V"⟩
abbrev cX4_sortOf : ByteArray := prog_6_method_4_code
def yX4_sortOf : MethodName := ⟨RX4, "sortOf", "(I)I"⟩
abbrev cX4_numberIn : ByteArray := prog_6_method_5_code
def yX4_numberIn : MethodName := ⟨RX4, "numberIn", "([BII)I"⟩
abbrev cX4_wordIn : ByteArray := prog_6_method_6_code
def yX4_wordIn : MethodName := ⟨RX4, "wordIn", "([BII)I"⟩
abbrev cX4_partIn : ByteArray := prog_6_method_7_code
def yX4_partIn : MethodName := ⟨RX4, "partIn", "([BII)I"⟩
abbrev cX4_stepIn : ByteArray := prog_6_method_8_code
def yX4_stepIn : MethodName := ⟨RX4, "stepIn", "([BII)I"⟩
abbrev cX4_isWord : ByteArray := prog_6_method_9_code
def yX4_isWord : MethodName := ⟨RX4, "isWord", "(Ljava/lang/String;[BII)Z"⟩
abbrev cX4_readStep : ByteArray := prog_6_method_10_code
def yX4_readStep : MethodName := ⟨RX4, "readStep", "(I)V"⟩
abbrev cX4_readTest : ByteArray := prog_6_method_11_code
def yX4_readTest : MethodName := ⟨RX4, "readTest", "()V"⟩
abbrev cX4_readPlain : ByteArray := prog_6_method_12_code
def yX4_readPlain : MethodName := ⟨RX4, "readPlain", "()V"⟩
abbrev cX4_readSum : ByteArray := prog_6_method_13_code
def yX4_readSum : MethodName := ⟨RX4, "readSum", "()V"⟩
abbrev cX4_readPart : ByteArray := prog_6_method_14_code
def yX4_readPart : MethodName := ⟨RX4, "readPart", "()V"⟩
abbrev cX4_readNumber : ByteArray := prog_6_method_15_code
def yX4_readNumber : MethodName := ⟨RX4, "readNumber", "(I)V"⟩
abbrev cX4_enters : ByteArray := prog_6_method_16_code
def yX4_enters : MethodName := ⟨RX4, "enters", "(I)Z"⟩
abbrev cX4_take : ByteArray := prog_6_method_17_code
def yX4_take : MethodName := ⟨RX4, "take", "(I)V"⟩
abbrev cX4_emit : ByteArray := prog_6_method_18_code
def yX4_emit : MethodName := ⟨RX4, "emit", "(I)V"⟩
abbrev cX4_fail : ByteArray := prog_6_method_19_code
def yX4_fail : MethodName := ⟨RX4, "fail", "()V"⟩
abbrev cX4_sees : ByteArray := prog_6_method_20_code
def yX4_sees : MethodName := ⟨RX4, "sees", "(I)Z"⟩
abbrev cX4_now : ByteArray := prog_6_method_21_code
def yX4_now : MethodName := ⟨RX4, "now", "()I"⟩
def RX5 : String := "HotIron$Recipe"
def TX5 : u_T := fun k => match k with
  | 0 => ("HotIron$Recipe", "length", "I", true)
  | 1 => ("HotIron$Recipe", "kind", "[I", true)
  | 2 => ("HotIron$Recipe", "start", "[I", true)
  | _ => ("HotIron$Recipe", "code", "[I", true)
def tyX5 : Nat → FieldType := fun k => match k with
  | 0 => .int
  | 1 => .array .int
  | 2 => .array .int
  | _ => .array .int
abbrev wsX50 : List Cond := u_ws RX5 TX5 4
theorem nmX5 : ∀ a, a < 4 → ∀ b, b < 4 → a ≠ b → (TX5 a).2.1 ≠ (TX5 b).2.1 := by decide +kernel
theorem tyX5_ok : ∀ k, k < 4 → parseFieldDescriptor (TX5 k).2.2.1 = some (tyX5 k) := by decide +kernel
abbrev cX5_init : ByteArray := prog_7_method_1_code
def yX5_init : MethodName := ⟨RX5, "<init>", "(LHotIron$Reader;)V"⟩
def RX6 : String := "HotIron$Run"
def TX6 : u_T := fun k => match k with
  | 0 => ("HotIron$Run", "cells", "I", false)
  | 1 => ("HotIron$Run", "iron", "[I", true)
  | 2 => ("HotIron$Run", "outcome", "[I", true)
  | 3 => ("HotIron$Run", "punched", "[I", true)
  | 4 => ("HotIron$Run", "hold", "[I", true)
  | 5 => ("HotIron$Run", "hotAt", "I", false)
  | 6 => ("HotIron$Run", "left", "I", false)
  | 7 => ("HotIron$Run", "stack", "[I", true)
  | 8 => ("HotIron$Run", "top", "I", false)
  | 9 => ("HotIron$Run", "slip", "I", false)
  | _ => ("HotIron$Run", "drawn", "I", false)
def tyX6 : Nat → FieldType := fun k => match k with
  | 0 => .int
  | 1 => .array .int
  | 2 => .array .int
  | 3 => .array .int
  | 4 => .array .int
  | 5 => .int
  | 6 => .int
  | 7 => .array .int
  | 8 => .int
  | 9 => .int
  | _ => .int
abbrev wsX60 : List Cond := u_ws RX6 TX6 11
theorem nmX6 : ∀ a, a < 11 → ∀ b, b < 11 → a ≠ b → (TX6 a).2.1 ≠ (TX6 b).2.1 := by decide +kernel
theorem tyX6_ok : ∀ k, k < 11 → parseFieldDescriptor (TX6 k).2.2.1 = some (tyX6 k) := by decide +kernel
abbrev cX6_init : ByteArray := prog_8_method_1_code
def yX6_init : MethodName := ⟨RX6, "<init>", "()V"⟩
abbrev cX6_takeHand : ByteArray := prog_8_method_2_code
def yX6_takeHand : MethodName := ⟨RX6, "takeHand", "(II)V"⟩
abbrev cX6_carryOut : ByteArray := prog_8_method_3_code
def yX6_carryOut : MethodName := ⟨RX6, "carryOut", "(LHotIron$Smithy;LHotIron$Recipe;I)I"⟩
abbrev cX6_isLike : ByteArray := prog_8_method_4_code
def yX6_isLike : MethodName := ⟨RX6, "isLike", "(LHotIron$Run;)Z"⟩
abbrev cX6_endedAs : ByteArray := prog_8_method_5_code
def yX6_endedAs : MethodName := ⟨RX6, "endedAs", "(III)Z"⟩
abbrev cX6_chance : ByteArray := prog_8_method_6_code
def yX6_chance : MethodName := ⟨RX6, "chance", "(Z)J"⟩
abbrev cX6_commonDivisor : ByteArray := prog_8_method_7_code
def yX6_commonDivisor : MethodName := ⟨RX6, "commonDivisor", "(JJ)J"⟩
abbrev cX6_begin : ByteArray := prog_8_method_8_code
def yX6_begin : MethodName := ⟨RX6, "begin", "(LHotIron$Smithy;)V"⟩
abbrev cX6_pass : ByteArray := prog_8_method_9_code
def yX6_pass : MethodName := ⟨RX6, "pass", "(LHotIron$Smithy;LHotIron$Recipe;II)I"⟩
abbrev cX6_fire : ByteArray := prog_8_method_10_code
def yX6_fire : MethodName := ⟨RX6, "fire", "(LHotIron$Smithy;I)Z"⟩
abbrev cX6_strike : ByteArray := prog_8_method_11_code
def yX6_strike : MethodName := ⟨RX6, "strike", "(II)V"⟩
abbrev cX6_moveIron : ByteArray := prog_8_method_12_code
def yX6_moveIron : MethodName := ⟨RX6, "moveIron", "(II)V"⟩
abbrev cX6_shoulder : ByteArray := prog_8_method_13_code
def yX6_shoulder : MethodName := ⟨RX6, "shoulder", "(I)V"⟩
abbrev cX6_punch : ByteArray := prog_8_method_14_code
def yX6_punch : MethodName := ⟨RX6, "punch", "(I)V"⟩
abbrev cX6_weld : ByteArray := prog_8_method_15_code
def yX6_weld : MethodName := ⟨RX6, "weld", "(II)V"⟩
abbrev cX6_useBlow : ByteArray := prog_8_method_16_code
def yX6_useBlow : MethodName := ⟨RX6, "useBlow", "(IZ)Z"⟩
abbrev cX6_loseIron : ByteArray := prog_8_method_17_code
def yX6_loseIron : MethodName := ⟨RX6, "loseIron", "(I)V"⟩
abbrev cX6_slips : ByteArray := prog_8_method_18_code
def yX6_slips : MethodName := ⟨RX6, "slips", "()Z"⟩
abbrev cX6_isThere : ByteArray := prog_8_method_19_code
def yX6_isThere : MethodName := ⟨RX6, "isThere", "(I)Z"⟩
abbrev cX6_isHot : ByteArray := prog_8_method_20_code
def yX6_isHot : MethodName := ⟨RX6, "isHot", "(I)Z"⟩
abbrev cX6_reckon : ByteArray := prog_8_method_21_code
def yX6_reckon : MethodName := ⟨RX6, "reckon", "(LHotIron$Recipe;I)V"⟩
abbrev cX6_partValue : ByteArray := prog_8_method_22_code
def yX6_partValue : MethodName := ⟨RX6, "partValue", "(I)I"⟩
abbrev cX6_cellValue : ByteArray := prog_8_method_23_code
def yX6_cellValue : MethodName := ⟨RX6, "cellValue", "(II)I"⟩
abbrev cX6_joined : ByteArray := prog_8_method_24_code
def yX6_joined : MethodName := ⟨RX6, "joined", "(III)I"⟩
abbrev cX6_push : ByteArray := prog_8_method_25_code
def yX6_push : MethodName := ⟨RX6, "push", "(I)V"⟩
abbrev cX6_pop : ByteArray := prog_8_method_26_code
def yX6_pop : MethodName := ⟨RX6, "pop", "()I"⟩
def RX7 : String := "HotIron$Smithy"
def TX7 : u_T := fun k => match k with
  | 0 => ("HotIron$Smithy", "cells", "I", false)
  | 1 => ("HotIron$Smithy", "bar", "[I", true)
  | 2 => ("HotIron$Smithy", "shape", "[I", true)
  | 3 => ("HotIron$Smithy", "held", "I", false)
  | 4 => ("HotIron$Smithy", "term", "[I", true)
  | 5 => ("HotIron$Smithy", "recipes", "[LHotIron$Recipe;", true)
  | 6 => ("HotIron$Smithy", "recipeCount", "I", false)
  | 7 => ("HotIron$Smithy", "minutes", "[I", true)
  | 8 => ("HotIron$Smithy", "need", "[I", true)
  | _ => ("HotIron$Smithy", "pieceCount", "I", false)
def tyX7 : Nat → FieldType := fun k => match k with
  | 0 => .int
  | 1 => .array .int
  | 2 => .array .int
  | 3 => .int
  | 4 => .array .int
  | 5 => .array (.object "HotIron$Recipe")
  | 6 => .int
  | 7 => .array .int
  | 8 => .array .int
  | _ => .int
abbrev wsX70 : List Cond := u_ws RX7 TX7 10
theorem nmX7 : ∀ a, a < 10 → ∀ b, b < 10 → a ≠ b → (TX7 a).2.1 ≠ (TX7 b).2.1 := by decide +kernel
theorem tyX7_ok : ∀ k, k < 10 → parseFieldDescriptor (TX7 k).2.2.1 = some (tyX7 k) := by decide +kernel
abbrev cX7_init : ByteArray := prog_9_method_1_code
def yX7_init : MethodName := ⟨RX7, "<init>", "()V"⟩
abbrev cX7_widen : ByteArray := prog_9_method_2_code
def yX7_widen : MethodName := ⟨RX7, "widen", "(I)V"⟩
abbrev cX7_copyFrom : ByteArray := prog_9_method_3_code
def yX7_copyFrom : MethodName := ⟨RX7, "copyFrom", "(LHotIron$Smithy;)V"⟩
abbrev cX7_recipeAt : ByteArray := prog_9_method_4_code
def yX7_recipeAt : MethodName := ⟨RX7, "recipeAt", "(I)LHotIron$Recipe;"⟩
abbrev cX7_ironOf : ByteArray := prog_9_method_5_code
def yX7_ironOf : MethodName := ⟨RX7, "ironOf", "([I)I"⟩
abbrev cX7_tellsBar : ByteArray := prog_9_method_6_code
def yX7_tellsBar : MethodName := ⟨RX7, "tellsBar", "(I)Z"⟩
def RX8 : String := "HotIron"
def TX8 : u_T := fun k => match k with
  | 0 => ("HotIron", "now", "LHotIron$Smithy;", true)
  | 1 => ("HotIron", "images", "[LHotIron$Smithy;", true)
  | 2 => ("HotIron", "tape", "[B", true)
  | 3 => ("HotIron", "tapeLength", "I", false)
  | 4 => ("HotIron", "reader", "LHotIron$Reader;", true)
  | 5 => ("HotIron", "latest", "LHotIron$Run;", true)
  | 6 => ("HotIron", "ran", "Z", false)
  | 7 => ("HotIron", "trial", "LHotIron$Run;", true)
  | 8 => ("HotIron", "model", "LHotIron$Run;", true)
  | 9 => ("HotIron", "twelveIron", "[I", true)
  | 10 => ("HotIron", "planners", "[LHotIron$Planner;", true)
  | 11 => ("HotIron", "gate", "LHotIron$Gate;", true)
  | 12 => ("HotIron", "refusals", "[I", true)
  | _ => ("HotIron", "latestRefusal", "I", false)
def tyX8 : Nat → FieldType := fun k => match k with
  | 0 => .object "HotIron$Smithy"
  | 1 => .array (.object "HotIron$Smithy")
  | 2 => .array .byte
  | 3 => .int
  | 4 => .object "HotIron$Reader"
  | 5 => .object "HotIron$Run"
  | 6 => .boolean
  | 7 => .object "HotIron$Run"
  | 8 => .object "HotIron$Run"
  | 9 => .array .int
  | 10 => .array (.object "HotIron$Planner")
  | 11 => .object "HotIron$Gate"
  | 12 => .array .int
  | _ => .int
abbrev wsX80 : List Cond := u_ws RX8 TX8 14
theorem nmX8 : ∀ a, a < 14 → ∀ b, b < 14 → a ≠ b → (TX8 a).2.1 ≠ (TX8 b).2.1 := by decide +kernel
theorem tyX8_ok : ∀ k, k < 14 → parseFieldDescriptor (TX8 k).2.2.1 = some (tyX8 k) := by decide +kernel
abbrev cX8_init : ByteArray := prog_1_method_1_code
def yX8_init : MethodName := ⟨RX8, "<init>", "()V"⟩
abbrev cX8_wide : ByteArray := prog_1_method_2_code
def yX8_wide : MethodName := ⟨RX8, "wide", "(I)I"⟩
abbrev cX8_bar : ByteArray := prog_1_method_3_code
def yX8_bar : MethodName := ⟨RX8, "bar", "(II)I"⟩
abbrev cX8_shape : ByteArray := prog_1_method_4_code
def yX8_shape : MethodName := ⟨RX8, "shape", "(II)I"⟩
abbrev cX8_tongs : ByteArray := prog_1_method_5_code
def yX8_tongs : MethodName := ⟨RX8, "tongs", "(I)I"⟩
abbrev cX8_terms : ByteArray := prog_1_method_6_code
def yX8_terms : MethodName := ⟨RX8, "terms", "(II)I"⟩
abbrev cX8_feed : ByteArray := prog_1_method_7_code
def yX8_feed : MethodName := ⟨RX8, "feed", "(IIIII)I"⟩
abbrev cX8_end : ByteArray := prog_1_method_8_code
def yX8_end : MethodName := ⟨RX8, "end", "(I)I"⟩
abbrev cX8_row : ByteArray := prog_1_method_9_code
def yX8_row : MethodName := ⟨RX8, "row", "()I"⟩
abbrev cX8_recipe : ByteArray := prog_1_method_10_code
def yX8_recipe : MethodName := ⟨RX8, "recipe", "()I"⟩
abbrev cX8_fault : ByteArray := prog_1_method_11_code
def yX8_fault : MethodName := ⟨RX8, "fault", "()I"⟩
abbrev cX8_steps : ByteArray := prog_1_method_12_code
def yX8_steps : MethodName := ⟨RX8, "steps", "(I)I"⟩
abbrev cX8_run : ByteArray := prog_1_method_13_code
def yX8_run : MethodName := ⟨RX8, "run", "(I)I"⟩
abbrev cX8_came : ByteArray := prog_1_method_14_code
def yX8_came : MethodName := ⟨RX8, "came", "(I)I"⟩
abbrev cX8_iron : ByteArray := prog_1_method_15_code
def yX8_iron : MethodName := ⟨RX8, "iron", "(I)I"⟩
abbrev cX8_welds : ByteArray := prog_1_method_16_code
def yX8_welds : MethodName := ⟨RX8, "welds", "(I)J"⟩
abbrev cX8_heats : ByteArray := prog_1_method_17_code
def yX8_heats : MethodName := ⟨RX8, "heats", "()I"⟩
abbrev cX8_plan : ByteArray := prog_1_method_18_code
def yX8_plan : MethodName := ⟨RX8, "plan", "(II)I"⟩
abbrev cX8_reached : ByteArray := prog_1_method_19_code
def yX8_reached : MethodName := ⟨RX8, "reached", "(I)I"⟩
abbrev cX8_even : ByteArray := prog_1_method_20_code
def yX8_even : MethodName := ⟨RX8, "even", "()I"⟩
abbrev cX8_change : ByteArray := prog_1_method_21_code
def yX8_change : MethodName := ⟨RX8, "change", "(II)I"⟩
abbrev cX8_made : ByteArray := prog_1_method_22_code
def yX8_made : MethodName := ⟨RX8, "made", "(III)I"⟩
abbrev cX8_twelve : ByteArray := prog_1_method_23_code
def yX8_twelve : MethodName := ⟨RX8, "twelve", "(IIII)I"⟩
abbrev cX8_piece : ByteArray := prog_1_method_24_code
def yX8_piece : MethodName := ⟨RX8, "piece", "(II)I"⟩
abbrev cX8_soonest : ByteArray := prog_1_method_25_code
def yX8_soonest : MethodName := ⟨RX8, "soonest", "(II)I"⟩
abbrev cX8_striker : ByteArray := prog_1_method_26_code
def yX8_striker : MethodName := ⟨RX8, "striker", "()I"⟩
abbrev cX8_image : ByteArray := prog_1_method_27_code
def yX8_image : MethodName := ⟨RX8, "image", "(I)I"⟩
abbrev cX8_back : ByteArray := prog_1_method_28_code
def yX8_back : MethodName := ⟨RX8, "back", "(I)I"⟩
abbrev cX8_count : ByteArray := prog_1_method_29_code
def yX8_count : MethodName := ⟨RX8, "count", "(I)I"⟩
abbrev cX8_status : ByteArray := prog_1_method_30_code
def yX8_status : MethodName := ⟨RX8, "status", "()I"⟩
abbrev cX8_refuse : ByteArray := prog_1_method_31_code
def yX8_refuse : MethodName := ⟨RX8, "refuse", "(I)I"⟩
abbrev cX8_grant : ByteArray := prog_1_method_32_code
def yX8_grant : MethodName := ⟨RX8, "grant", "(I)I"⟩
abbrev cX8_setIron : ByteArray := prog_1_method_33_code
def yX8_setIron : MethodName := ⟨RX8, "setIron", "([III)I"⟩
abbrev cX8_write : ByteArray := prog_1_method_34_code
def yX8_write : MethodName := ⟨RX8, "write", "(I)V"⟩
abbrev cX8_intOnTape : ByteArray := prog_1_method_35_code
def yX8_intOnTape : MethodName := ⟨RX8, "intOnTape", "(I)I"⟩
abbrev cX8_planner : ByteArray := prog_1_method_36_code
def yX8_planner : MethodName := ⟨RX8, "planner", "()LHotIron$Planner;"⟩
abbrev cX8_makeTwelve : ByteArray := prog_1_method_37_code
def yX8_makeTwelve : MethodName := ⟨RX8, "makeTwelve", "(LHotIron$Recipe;II)V"⟩
abbrev cX8_manyAs : ByteArray := prog_1_method_38_code
def yX8_manyAs : MethodName := ⟨RX8, "manyAs", "([I)I"⟩
abbrev cX8_widestApart : ByteArray := prog_1_method_39_code
def yX8_widestApart : MethodName := ⟨RX8, "widestApart", "()I"⟩
abbrev cX8_ironApart : ByteArray := prog_1_method_40_code
def yX8_ironApart : MethodName := ⟨RX8, "ironApart", "(I[II)I"⟩
def RX9 : String := "HotIronModel"
def TX9 : u_T := fun k => match k with
  | 0 => ("HotIronModel", "thrown", "I", false)
  | 1 => ("HotIronModel", "status", "I", false)
  | 2 => ("HotIronModel", "refusals", "[I", true)
  | 3 => ("HotIronModel", "row", "[I", true)
  | 4 => ("HotIronModel", "images", "[I", true)
  | 5 => ("HotIronModel", "isKept", "[Z", true)
  | 6 => ("HotIronModel", "tape", "[I", true)
  | 7 => ("HotIronModel", "taped", "I", false)
  | 8 => ("HotIronModel", "from", "I", false)
  | 9 => ("HotIronModel", "to", "I", false)
  | 10 => ("HotIronModel", "sort", "I", false)
  | 11 => ("HotIronModel", "worth", "J", false)
  | 12 => ("HotIronModel", "fault", "I", false)
  | 13 => ("HotIronModel", "bad", "Z", false)
  | 14 => ("HotIronModel", "nParts", "I", false)
  | 15 => ("HotIronModel", "nCode", "I", false)
  | 16 => ("HotIronModel", "nOp", "[I", true)
  | 17 => ("HotIronModel", "nArg", "[I", true)
  | 18 => ("HotIronModel", "pile", "[I", true)
  | 19 => ("HotIronModel", "piled", "I", false)
  | 20 => ("HotIronModel", "opened", "I", false)
  | 21 => ("HotIronModel", "nStep", "[I", true)
  | 22 => ("HotIronModel", "nSteps", "I", false)
  | 23 => ("HotIronModel", "iron", "[I", true)
  | 24 => ("HotIronModel", "punched", "[I", true)
  | 25 => ("HotIronModel", "weldWorth", "[I", true)
  | 26 => ("HotIronModel", "hot", "I", false)
  | 27 => ("HotIronModel", "left", "I", false)
  | 28 => ("HotIronModel", "latest", "I", false)
  | 29 => ("HotIronModel", "heated", "I", false)
  | 30 => ("HotIronModel", "struck", "I", false)
  | 31 => ("HotIronModel", "moves", "I", false)
  | 32 => ("HotIronModel", "duds", "I", false)
  | 33 => ("HotIronModel", "colds", "I", false)
  | 34 => ("HotIronModel", "scale", "I", false)
  | 35 => ("HotIronModel", "dropped", "I", false)
  | 36 => ("HotIronModel", "shoulders", "I", false)
  | 37 => ("HotIronModel", "holes", "I", false)
  | 38 => ("HotIronModel", "welded", "I", false)
  | 39 => ("HotIronModel", "folds", "I", false)
  | 40 => ("HotIronModel", "cracks", "I", false)
  | 41 => ("HotIronModel", "gone", "I", false)
  | 42 => ("HotIronModel", "slip", "I", false)
  | 43 => ("HotIronModel", "state", "J", false)
  | 44 => ("HotIronModel", "rest", "[I", true)
  | 45 => ("HotIronModel", "ranCells", "I", false)
  | 46 => ("HotIronModel", "ranIron", "[I", true)
  | 47 => ("HotIronModel", "ran", "[I", true)
  | 48 => ("HotIronModel", "ranWelds", "[I", true)
  | 49 => ("HotIronModel", "kept", "[I", true)
  | 50 => ("HotIronModel", "weight", "[I", true)
  | 51 => ("HotIronModel", "level", "[I", true)
  | 52 => ("HotIronModel", "toGo", "[I", true)
  | 53 => ("HotIronModel", "onWay", "[I", true)
  | 54 => ("HotIronModel", "goal", "[I", true)
  | 55 => ("HotIronModel", "stamp", "[I", true)
  | 56 => ("HotIronModel", "stamped", "I", false)
  | 57 => ("HotIronModel", "spread", "[I", true)
  | 58 => ("HotIronModel", "spreadMany", "I", false)
  | 59 => ("HotIronModel", "levels", "I", false)
  | 60 => ("HotIronModel", "planHeats", "I", false)
  | 61 => ("HotIronModel", "planCell", "[I", true)
  | 62 => ("HotIronModel", "planRow", "[I", true)
  | 63 => ("HotIronModel", "order", "[I", true)
  | 64 => ("HotIronModel", "begins", "[I", true)
  | 65 => ("HotIronModel", "free", "[I", true)
  | _ => ("HotIronModel", "best", "[I", true)
def tyX9 : Nat → FieldType := fun k => match k with
  | 0 => .int
  | 1 => .int
  | 2 => .array .int
  | 3 => .array .int
  | 4 => .array .int
  | 5 => .array .boolean
  | 6 => .array .int
  | 7 => .int
  | 8 => .int
  | 9 => .int
  | 10 => .int
  | 11 => .long
  | 12 => .int
  | 13 => .boolean
  | 14 => .int
  | 15 => .int
  | 16 => .array .int
  | 17 => .array .int
  | 18 => .array .int
  | 19 => .int
  | 20 => .int
  | 21 => .array .int
  | 22 => .int
  | 23 => .array .int
  | 24 => .array .int
  | 25 => .array .int
  | 26 => .int
  | 27 => .int
  | 28 => .int
  | 29 => .int
  | 30 => .int
  | 31 => .int
  | 32 => .int
  | 33 => .int
  | 34 => .int
  | 35 => .int
  | 36 => .int
  | 37 => .int
  | 38 => .int
  | 39 => .int
  | 40 => .int
  | 41 => .int
  | 42 => .int
  | 43 => .long
  | 44 => .array .int
  | 45 => .int
  | 46 => .array .int
  | 47 => .array .int
  | 48 => .array .int
  | 49 => .array .int
  | 50 => .array .int
  | 51 => .array .int
  | 52 => .array .int
  | 53 => .array .int
  | 54 => .array .int
  | 55 => .array .int
  | 56 => .int
  | 57 => .array .int
  | 58 => .int
  | 59 => .int
  | 60 => .int
  | 61 => .array .int
  | 62 => .array .int
  | 63 => .array .int
  | 64 => .array .int
  | 65 => .array .int
  | _ => .array .int
abbrev wsX90 : List Cond := u_ws RX9 TX9 67
theorem nmX9 : ∀ a, a < 67 → ∀ b, b < 67 → a ≠ b → (TX9 a).2.1 ≠ (TX9 b).2.1 := by decide +kernel
theorem tyX9_ok : ∀ k, k < 67 → parseFieldDescriptor (TX9 k).2.2.1 = some (tyX9 k) := by decide +kernel
abbrev cX9_init : ByteArray := prog_11_method_1_code
def yX9_init : MethodName := ⟨RX9, "<init>", "()V"⟩
abbrev cX9_in : ByteArray := prog_11_method_3_code
def yX9_in : MethodName := ⟨RX9, "in", "(JJJ)Z"⟩
abbrev cX9_tell : ByteArray := prog_11_method_4_code
def yX9_tell : MethodName := ⟨RX9, "tell", "(I)I"⟩
abbrev cX9_image : ByteArray := prog_11_method_5_code
def yX9_image : MethodName := ⟨RX9, "image", "(I)I"⟩
abbrev cX9_back : ByteArray := prog_11_method_6_code
def yX9_back : MethodName := ⟨RX9, "back", "(I)I"⟩
abbrev cX9_isCell : ByteArray := prog_11_method_7_code
def yX9_isCell : MethodName := ⟨RX9, "isCell", "(J)Z"⟩
abbrev cX9_isRecipe : ByteArray := prog_11_method_8_code
def yX9_isRecipe : MethodName := ⟨RX9, "isRecipe", "(I)Z"⟩
abbrev cX9_wide : ByteArray := prog_11_method_9_code
def yX9_wide : MethodName := ⟨RX9, "wide", "(I)I"⟩
abbrev cX9_put : ByteArray := prog_11_method_10_code
def yX9_put : MethodName := ⟨RX9, "put", "(III)I"⟩
abbrev cX9_bar : ByteArray := prog_11_method_11_code
def yX9_bar : MethodName := ⟨RX9, "bar", "(II)I"⟩
abbrev cX9_shape : ByteArray := prog_11_method_12_code
def yX9_shape : MethodName := ⟨RX9, "shape", "(II)I"⟩
abbrev cX9_tongs : ByteArray := prog_11_method_13_code
def yX9_tongs : MethodName := ⟨RX9, "tongs", "(I)I"⟩
abbrev cX9_terms : ByteArray := prog_11_method_14_code
def yX9_terms : MethodName := ⟨RX9, "terms", "(II)I"⟩
abbrev cX9_row : ByteArray := prog_11_method_15_code
def yX9_row : MethodName := ⟨RX9, "row", "()I"⟩
abbrev cX9_four : ByteArray := prog_11_method_16_code
def yX9_four : MethodName := ⟨RX9, "four", "(I)V"⟩
abbrev cX9_feed : ByteArray := prog_11_method_17_code
def yX9_feed : MethodName := ⟨RX9, "feed", "(IIIII)I"⟩
abbrev cX9_end : ByteArray := prog_11_method_18_code
def yX9_end : MethodName := ⟨RX9, "end", "(I)I"⟩
abbrev cX9_isSmall : ByteArray := prog_11_method_19_code
def yX9_isSmall : MethodName := ⟨RX9, "isSmall", "(I)Z"⟩
abbrev cX9_isDigit : ByteArray := prog_11_method_20_code
def yX9_isDigit : MethodName := ⟨RX9, "isDigit", "(I)Z"⟩
abbrev cX9_begin : ByteArray := prog_11_method_21_code
def yX9_begin : MethodName := ⟨RX9, "begin", "()V"⟩
abbrev cX9_next : ByteArray := prog_11_method_22_code
def yX9_next : MethodName := ⟨RX9, "next", "()V"⟩
abbrev cX9_isWord : ByteArray := prog_11_method_23_code
def yX9_isWord : MethodName := ⟨RX9, "isWord", "(J)Z"⟩
abbrev cX9_isSign : ByteArray := prog_11_method_24_code
def yX9_isSign : MethodName := ⟨RX9, "isSign", "(I)Z"⟩
abbrev cX9_wrong : ByteArray := prog_11_method_25_code
def yX9_wrong : MethodName := ⟨RX9, "wrong", "()V"⟩
abbrev cX9_must : ByteArray := prog_11_method_26_code
def yX9_must : MethodName := ⟨RX9, "must", "(Z)V"⟩
abbrev cX9_number : ByteArray := prog_11_method_27_code
def yX9_number : MethodName := ⟨RX9, "number", "(J)I"⟩
abbrev cX9_fault : ByteArray := prog_11_method_28_code
def yX9_fault : MethodName := ⟨RX9, "fault", "()I"⟩
abbrev cX9_emit : ByteArray := prog_11_method_29_code
def yX9_emit : MethodName := ⟨RX9, "emit", "(II)V"⟩
abbrev cX9_push : ByteArray := prog_11_method_30_code
def yX9_push : MethodName := ⟨RX9, "push", "(I)V"⟩
abbrev cX9_binds : ByteArray := prog_11_method_31_code
def yX9_binds : MethodName := ⟨RX9, "binds", "(I)I"⟩
abbrev cX9_settle : ByteArray := prog_11_method_32_code
def yX9_settle : MethodName := ⟨RX9, "settle", "(I)V"⟩
abbrev cX9_inner : ByteArray := prog_11_method_33_code
def yX9_inner : MethodName := ⟨RX9, "inner", "()I"⟩
abbrev cX9_isCompared : ByteArray := prog_11_method_34_code
def yX9_isCompared : MethodName := ⟨RX9, "isCompared", "()Z"⟩
abbrev cX9_open : ByteArray := prog_11_method_35_code
def yX9_open : MethodName := ⟨RX9, "open", "(ZI)V"⟩
abbrev cX9_wordAt : ByteArray := prog_11_method_36_code
def yX9_wordAt : MethodName := ⟨RX9, "wordAt", "()I"⟩
abbrev cX9_readPart : ByteArray := prog_11_method_37_code
def yX9_readPart : MethodName := ⟨RX9, "readPart", "()I"⟩
abbrev cX9_readPlain : ByteArray := prog_11_method_38_code
def yX9_readPlain : MethodName := ⟨RX9, "readPlain", "()I"⟩
abbrev cX9_behindSum : ByteArray := prog_11_method_39_code
def yX9_behindSum : MethodName := ⟨RX9, "behindSum", "(Z)I"⟩
abbrev cX9_behindTest : ByteArray := prog_11_method_40_code
def yX9_behindTest : MethodName := ⟨RX9, "behindTest", "()I"⟩
abbrev cX9_readExpression : ByteArray := prog_11_method_41_code
def yX9_readExpression : MethodName := ⟨RX9, "readExpression", "(Z)V"⟩
abbrev cX9_sortAt : ByteArray := prog_11_method_42_code
def yX9_sortAt : MethodName := ⟨RX9, "sortAt", "()I"⟩
abbrev cX9_readStep : ByteArray := prog_11_method_43_code
def yX9_readStep : MethodName := ⟨RX9, "readStep", "()V"⟩
abbrev cX9_recipe : ByteArray := prog_11_method_44_code
def yX9_recipe : MethodName := ⟨RX9, "recipe", "()I"⟩
abbrev cX9_steps : ByteArray := prog_11_method_45_code
def yX9_steps : MethodName := ⟨RX9, "steps", "(I)I"⟩
abbrev cX9_reckon : ByteArray := prog_11_method_46_code
def yX9_reckon : MethodName := ⟨RX9, "reckon", "(III)I"⟩
abbrev cX9_joined : ByteArray := prog_11_method_47_code
def yX9_joined : MethodName := ⟨RX9, "joined", "(III)I"⟩
abbrev cX9_draw : ByteArray := prog_11_method_48_code
def yX9_draw : MethodName := ⟨RX9, "draw", "(I)I"⟩
abbrev cX9_isNear : ByteArray := prog_11_method_49_code
def yX9_isNear : MethodName := ⟨RX9, "isNear", "(II)Z"⟩
abbrev cX9_isHot : ByteArray := prog_11_method_50_code
def yX9_isHot : MethodName := ⟨RX9, "isHot", "(I)Z"⟩
abbrev cX9_fire : ByteArray := prog_11_method_51_code
def yX9_fire : MethodName := ⟨RX9, "fire", "(I)Z"⟩
abbrev cX9_lose : ByteArray := prog_11_method_52_code
def yX9_lose : MethodName := ⟨RX9, "lose", "(I)V"⟩
abbrev cX9_uses : ByteArray := prog_11_method_53_code
def yX9_uses : MethodName := ⟨RX9, "uses", "(ZI)Z"⟩
abbrev cX9_strike : ByteArray := prog_11_method_54_code
def yX9_strike : MethodName := ⟨RX9, "strike", "(II)V"⟩
abbrev cX9_punch : ByteArray := prog_11_method_55_code
def yX9_punch : MethodName := ⟨RX9, "punch", "(I)V"⟩
abbrev cX9_weld : ByteArray := prog_11_method_56_code
def yX9_weld : MethodName := ⟨RX9, "weld", "(I)V"⟩
abbrev cX9_doStep : ByteArray := prog_11_method_57_code
def yX9_doStep : MethodName := ⟨RX9, "doStep", "(II)Z"⟩
abbrev cX9_rest0 : ByteArray := prog_11_method_58_code
def yX9_rest0 : MethodName := ⟨RX9, "rest0", "()V"⟩
abbrev cX9_goThrough : ByteArray := prog_11_method_59_code
def yX9_goThrough : MethodName := ⟨RX9, "goThrough", "(II)V"⟩
abbrev cX9_run : ByteArray := prog_11_method_60_code
def yX9_run : MethodName := ⟨RX9, "run", "(I)I"⟩
abbrev cX9_came : ByteArray := prog_11_method_61_code
def yX9_came : MethodName := ⟨RX9, "came", "(I)I"⟩
abbrev cX9_iron : ByteArray := prog_11_method_62_code
def yX9_iron : MethodName := ⟨RX9, "iron", "(I)I"⟩
abbrev cX9_welds : ByteArray := prog_11_method_63_code
def yX9_welds : MethodName := ⟨RX9, "welds", "(I)J"⟩
abbrev cX9_change : ByteArray := prog_11_method_64_code
def yX9_change : MethodName := ⟨RX9, "change", "(II)I"⟩
abbrev cX9_keepIron : ByteArray := prog_11_method_65_code
def yX9_keepIron : MethodName := ⟨RX9, "keepIron", "()V"⟩
abbrev cX9_apart : ByteArray := prog_11_method_66_code
def yX9_apart : MethodName := ⟨RX9, "apart", "(I)I"⟩
abbrev cX9_made : ByteArray := prog_11_method_67_code
def yX9_made : MethodName := ⟨RX9, "made", "(III)I"⟩
abbrev cX9_twelve : ByteArray := prog_11_method_68_code
def yX9_twelve : MethodName := ⟨RX9, "twelve", "(IIII)I"⟩
abbrev cX9_forget : ByteArray := prog_11_method_69_code
def yX9_forget : MethodName := ⟨RX9, "forget", "()V"⟩
abbrev cX9_findWeights : ByteArray := prog_11_method_70_code
def yX9_findWeights : MethodName := ⟨RX9, "findWeights", "()V"⟩
abbrev cX9_rowAt : ByteArray := prog_11_method_71_code
def yX9_rowAt : MethodName := ⟨RX9, "rowAt", "(I)I"⟩
abbrev cX9_ironOf : ByteArray := prog_11_method_72_code
def yX9_ironOf : MethodName := ⟨RX9, "ironOf", "(II)I"⟩
abbrev cX9_reach : ByteArray := prog_11_method_73_code
def yX9_reach : MethodName := ⟨RX9, "reach", "(I)V"⟩
abbrev cX9_findSpread : ByteArray := prog_11_method_74_code
def yX9_findSpread : MethodName := ⟨RX9, "findSpread", "(III)V"⟩
abbrev cX9_moveAll : ByteArray := prog_11_method_75_code
def yX9_moveAll : MethodName := ⟨RX9, "moveAll", "(II)V"⟩
abbrev cX9_findLevels : ByteArray := prog_11_method_76_code
def yX9_findLevels : MethodName := ⟨RX9, "findLevels", "(IIII)I"⟩
abbrev cX9_reached : ByteArray := prog_11_method_77_code
def yX9_reached : MethodName := ⟨RX9, "reached", "(I)I"⟩
abbrev cX9_leads : ByteArray := prog_11_method_78_code
def yX9_leads : MethodName := ⟨RX9, "leads", "(II[II)Z"⟩
abbrev cX9_findToGo : ByteArray := prog_11_method_79_code
def yX9_findToGo : MethodName := ⟨RX9, "findToGo", "(I)V"⟩
abbrev cX9_chooseCell : ByteArray := prog_11_method_80_code
def yX9_chooseCell : MethodName := ⟨RX9, "chooseCell", "(I)V"⟩
abbrev cX9_findPlan : ByteArray := prog_11_method_81_code
def yX9_findPlan : MethodName := ⟨RX9, "findPlan", "()V"⟩
abbrev cX9_heats : ByteArray := prog_11_method_82_code
def yX9_heats : MethodName := ⟨RX9, "heats", "()I"⟩
abbrev cX9_plan : ByteArray := prog_11_method_83_code
def yX9_plan : MethodName := ⟨RX9, "plan", "(II)I"⟩
abbrev cX9_even : ByteArray := prog_11_method_84_code
def yX9_even : MethodName := ⟨RX9, "even", "()I"⟩
abbrev cX9_striker : ByteArray := prog_11_method_85_code
def yX9_striker : MethodName := ⟨RX9, "striker", "()I"⟩
abbrev cX9_piece : ByteArray := prog_11_method_86_code
def yX9_piece : MethodName := ⟨RX9, "piece", "(II)I"⟩
abbrev cX9_doneBy : ByteArray := prog_11_method_87_code
def yX9_doneBy : MethodName := ⟨RX9, "doneBy", "(I)I"⟩
abbrev cX9_nextOrder : ByteArray := prog_11_method_88_code
def yX9_nextOrder : MethodName := ⟨RX9, "nextOrder", "()Z"⟩
abbrev cX9_exchange : ByteArray := prog_11_method_89_code
def yX9_exchange : MethodName := ⟨RX9, "exchange", "(II)V"⟩
abbrev cX9_soonest : ByteArray := prog_11_method_90_code
def yX9_soonest : MethodName := ⟨RX9, "soonest", "(II)I"⟩
abbrev cX9_count : ByteArray := prog_11_method_91_code
def yX9_count : MethodName := ⟨RX9, "count", "(I)I"⟩
abbrev cX9_status : ByteArray := prog_11_method_92_code
def yX9_status : MethodName := ⟨RX9, "status", "()I"⟩
def RJx145de : String := "java/io/Serializable"
def RJx9f9b0 : String := "java/lang/CharSequence"
def RJx8e188 : String := "java/lang/Cloneable"
def RJxb160c : String := "java/lang/Comparable"
def RJ13 : String := "java/lang/Long"
abbrev cJ13_bitCount_95d88 : ByteArray := prog_13_method_50_code
def yJ13_bitCount_95d88 : MethodName := ⟨RJ13, "bitCount", "(J)I"⟩
def RJ9 : String := "java/lang/Math"
abbrev cJ9_abs_0f7a4 : ByteArray := prog_14_method_59_code
def yJ9_abs_0f7a4 : MethodName := ⟨RJ9, "abs", "(I)I"⟩
abbrev cJ9_max_7cf53 : ByteArray := prog_14_method_65_code
def yJ9_max_7cf53 : MethodName := ⟨RJ9, "max", "(II)I"⟩
abbrev cJ9_min_7cf53 : ByteArray := prog_14_method_69_code
def yJ9_min_7cf53 : MethodName := ⟨RJ9, "min", "(II)I"⟩
def RJ0 : String := "java/lang/String"
abbrev cJ0_length_8abf5 : ByteArray := prog_15_method_54_code
def yJ0_length_8abf5 : MethodName := ⟨RJ0, "length", "()I"⟩
abbrev cJ0_charAt_5068e : ByteArray := prog_15_method_56_code
def yJ0_charAt_5068e : MethodName := ⟨RJ0, "charAt", "(I)C"⟩
abbrev cJ0_coder_7d493 : ByteArray := prog_15_method_152_code
def yJ0_coder_7d493 : MethodName := ⟨RJ0, "coder", "()B"⟩
abbrev cJ0_isLatin1_aae02 : ByteArray := prog_15_method_154_code
def yJ0_isLatin1_aae02 : MethodName := ⟨RJ0, "isLatin1", "()Z"⟩
abbrev cJ0_checkIndex_df160 : ByteArray := prog_15_method_155_code
def yJ0_checkIndex_df160 : MethodName := ⟨RJ0, "checkIndex", "(II)V"⟩
def RJ1 : String := "java/lang/StringLatin1"
abbrev cJ1_charAt_3b067 : ByteArray := prog_16_method_2_code
def yJ1_charAt_3b067 : MethodName := ⟨RJ1, "charAt", "([BI)C"⟩
def RJ2 : String := "java/lang/StringUTF16"
abbrev cJ2_getChar_3b067 : ByteArray := prog_17_method_5_code
def yJ2_getChar_3b067 : MethodName := ⟨RJ2, "getChar", "([BI)C"⟩
abbrev cJ2_length_9d52b : ByteArray := prog_17_method_6_code
def yJ2_length_9d52b : MethodName := ⟨RJ2, "length", "([B)I"⟩
abbrev cJ2_charAt_3b067 : ByteArray := prog_17_method_83_code
def yJ2_charAt_3b067 : MethodName := ⟨RJ2, "charAt", "([BI)C"⟩
abbrev cJ2_checkIndex_2214a : ByteArray := prog_17_method_91_code
def yJ2_checkIndex_2214a : MethodName := ⟨RJ2, "checkIndex", "(I[B)V"⟩
def RJ10 : String := "java/lang/System"
def RJxfd54e : String := "java/lang/constant/Constable"
def RJx3cf43 : String := "java/lang/constant/ConstantDesc"
def RJ7 : String := "java/util/Arrays"
abbrev cJ7_fill_d0a16 : ByteArray := prog_19_method_101_code
def yJ7_fill_d0a16 : MethodName := ⟨RJ7, "fill", "([JJ)V"⟩
abbrev cJ7_fill_53178 : ByteArray := prog_19_method_103_code
def yJ7_fill_53178 : MethodName := ⟨RJ7, "fill", "([II)V"⟩
abbrev cJ7_copyOf_59c91 : ByteArray := prog_19_method_123_code
def yJ7_copyOf_59c91 : MethodName := ⟨RJ7, "copyOf", "([II)[I"⟩
def RJ3 : String := "jdk/internal/util/Preconditions"
abbrev cJ3_checkIndex_8e157 : ByteArray := prog_20_method_11_code
def yJ3_checkIndex_8e157 : MethodName := ⟨RJ3, "checkIndex", "(IILjava/util/function/BiFunction;)I"⟩
def RL : String := "HotIronLaw"
abbrev cL_law : ByteArray := code
def yL_law : MethodName := ⟨RL, "law", "([I)Z"⟩
abbrev vwCl : List vw_C := [(RX0, TX0, 10), (RX1, TX1, 10), (RX2, TX2, 8), (RX3, TX3, 13), (RX4, TX4, 11), (RX5, TX5, 4), (RX6, TX6, 11), (RX7, TX7, 10), (RX8, TX8, 14), (RX9, TX9, 67)]
