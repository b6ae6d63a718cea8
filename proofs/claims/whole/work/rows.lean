section
-- ===== PART A: goes FIRST, ahead of the names: the tables' words, and 'selects' of the private methods out of them =====
/-- a private method of a class that the tables say can be made, by its rows of tables_1 -/
def lw_okq (q : MethodName × Nat) : Prop := (q.1.cls ≠ "java/lang/invoke/MethodHandle" ∧ q.1.cls ≠ "java/lang/invoke/VarHandle") ∧ Cond.instantiable q.1.cls q.2 ∈ tables_1 ∧ Cond.privateMethod q.1 ∈ tables_1 ∧ Cond.instanceMethod q.1 ∈ tables_1
theorem lw_p0 : lw_okq (⟨"StatuteConsolidator$Statute", "hasProvision", "(I)Z"⟩, 4) := ⟨⟨by decide +kernel, by decide +kernel⟩, List.mem_of_getElem? (i := 27) (by decide +kernel), List.mem_of_getElem? (i := 232) (by decide +kernel), List.mem_of_getElem? (i := 233) (by decide +kernel)⟩
theorem lw_p1 : lw_okq (⟨"StatuteConsolidator$Statute", "pathOf", "(I)J"⟩, 4) := ⟨⟨by decide +kernel, by decide +kernel⟩, List.mem_of_getElem? (i := 27) (by decide +kernel), List.mem_of_getElem? (i := 239) (by decide +kernel), List.mem_of_getElem? (i := 240) (by decide +kernel)⟩
theorem lw_p2 : lw_okq (⟨"StatuteConsolidator$Provisions", "positionOfOrigin", "(I)I"⟩, 6) := ⟨⟨by decide +kernel, by decide +kernel⟩, List.mem_of_getElem? (i := 33) (by decide +kernel), List.mem_of_getElem? (i := 243) (by decide +kernel), List.mem_of_getElem? (i := 244) (by decide +kernel)⟩
theorem lw_p3 : lw_okq (⟨"StatuteConsolidator$Provisions", "labelOfNewLastChild", "(J)I"⟩, 6) := ⟨⟨by decide +kernel, by decide +kernel⟩, List.mem_of_getElem? (i := 33) (by decide +kernel), List.mem_of_getElem? (i := 252) (by decide +kernel), List.mem_of_getElem? (i := 253) (by decide +kernel)⟩
theorem lw_p4 : lw_okq (⟨"StatuteConsolidator$Statute", "createProvision", "(JI)I"⟩, 4) := ⟨⟨by decide +kernel, by decide +kernel⟩, List.mem_of_getElem? (i := 27) (by decide +kernel), List.mem_of_getElem? (i := 282) (by decide +kernel), List.mem_of_getElem? (i := 283) (by decide +kernel)⟩
theorem lw_p5 : lw_okq (⟨"StatuteConsolidator$Provisions", "append", "(JIII)V"⟩, 6) := ⟨⟨by decide +kernel, by decide +kernel⟩, List.mem_of_getElem? (i := 33) (by decide +kernel), List.mem_of_getElem? (i := 286) (by decide +kernel), List.mem_of_getElem? (i := 287) (by decide +kernel)⟩
theorem lw_p6 : lw_okq (⟨"StatuteConsolidator$Provisions", "restoreOrder", "()V"⟩, 6) := ⟨⟨by decide +kernel, by decide +kernel⟩, List.mem_of_getElem? (i := 33) (by decide +kernel), List.mem_of_getElem? (i := 290) (by decide +kernel), List.mem_of_getElem? (i := 291) (by decide +kernel)⟩
theorem lw_p7 : lw_okq (⟨"StatuteConsolidator$Provisions", "swap", "(II)V"⟩, 6) := ⟨⟨by decide +kernel, by decide +kernel⟩, List.mem_of_getElem? (i := 33) (by decide +kernel), List.mem_of_getElem? (i := 294) (by decide +kernel), List.mem_of_getElem? (i := 295) (by decide +kernel)⟩
theorem lw_p8 : lw_okq (⟨"StatuteConsolidator$Provisions", "labelAfter", "(JJ)I"⟩, 6) := ⟨⟨by decide +kernel, by decide +kernel⟩, List.mem_of_getElem? (i := 33) (by decide +kernel), List.mem_of_getElem? (i := 302) (by decide +kernel), List.mem_of_getElem? (i := 303) (by decide +kernel)⟩
theorem lw_p9 : lw_okq (⟨"StatuteConsolidator$Shelves", "emptyAll", "()V"⟩, 4) := ⟨⟨by decide +kernel, by decide +kernel⟩, List.mem_of_getElem? (i := 153) (by decide +kernel), List.mem_of_getElem? (i := 328) (by decide +kernel), List.mem_of_getElem? (i := 329) (by decide +kernel)⟩
theorem lw_p10 : lw_okq (⟨"StatuteConsolidator", "storeAmendment", "(I)I"⟩, 7) := ⟨⟨by decide +kernel, by decide +kernel⟩, List.mem_of_getElem? (i := 19) (by decide +kernel), List.mem_of_getElem? (i := 348) (by decide +kernel), List.mem_of_getElem? (i := 349) (by decide +kernel)⟩
theorem lw_p11 : lw_okq (⟨"StatuteConsolidator$Input", "readInstructions", "(LStatuteConsolidator$Amendments;I)I"⟩, 3) := ⟨⟨by decide +kernel, by decide +kernel⟩, List.mem_of_getElem? (i := 134) (by decide +kernel), List.mem_of_getElem? (i := 355) (by decide +kernel), List.mem_of_getElem? (i := 356) (by decide +kernel)⟩
theorem lw_p12 : lw_okq (⟨"StatuteConsolidator$Input", "readInstruction", "(LStatuteConsolidator$Amendments;I)Z"⟩, 3) := ⟨⟨by decide +kernel, by decide +kernel⟩, List.mem_of_getElem? (i := 134) (by decide +kernel), List.mem_of_getElem? (i := 359) (by decide +kernel), List.mem_of_getElem? (i := 360) (by decide +kernel)⟩
theorem lw_p13 : lw_okq (⟨"StatuteConsolidator$Input", "readKind", "()I"⟩, 3) := ⟨⟨by decide +kernel, by decide +kernel⟩, List.mem_of_getElem? (i := 134) (by decide +kernel), List.mem_of_getElem? (i := 363) (by decide +kernel), List.mem_of_getElem? (i := 364) (by decide +kernel)⟩
theorem lw_p14 : lw_okq (⟨"StatuteConsolidator$Input", "matchingLength", "(Ljava/lang/String;)I"⟩, 3) := ⟨⟨by decide +kernel, by decide +kernel⟩, List.mem_of_getElem? (i := 134) (by decide +kernel), List.mem_of_getElem? (i := 376) (by decide +kernel), List.mem_of_getElem? (i := 377) (by decide +kernel)⟩
theorem lw_p15 : lw_okq (⟨"StatuteConsolidator$Input", "take", "(I)Z"⟩, 3) := ⟨⟨by decide +kernel, by decide +kernel⟩, List.mem_of_getElem? (i := 134) (by decide +kernel), List.mem_of_getElem? (i := 430) (by decide +kernel), List.mem_of_getElem? (i := 431) (by decide +kernel)⟩
def lw_privs_1 : List (MethodName × Nat) := [(⟨"StatuteConsolidator$Statute", "hasProvision", "(I)Z"⟩, 4), (⟨"StatuteConsolidator$Statute", "pathOf", "(I)J"⟩, 4), (⟨"StatuteConsolidator$Provisions", "positionOfOrigin", "(I)I"⟩, 6), (⟨"StatuteConsolidator$Provisions", "labelOfNewLastChild", "(J)I"⟩, 6), (⟨"StatuteConsolidator$Statute", "createProvision", "(JI)I"⟩, 4), (⟨"StatuteConsolidator$Provisions", "append", "(JIII)V"⟩, 6), (⟨"StatuteConsolidator$Provisions", "restoreOrder", "()V"⟩, 6), (⟨"StatuteConsolidator$Provisions", "swap", "(II)V"⟩, 6), (⟨"StatuteConsolidator$Provisions", "labelAfter", "(JJ)I"⟩, 6), (⟨"StatuteConsolidator$Shelves", "emptyAll", "()V"⟩, 4), (⟨"StatuteConsolidator", "storeAmendment", "(I)I"⟩, 7), (⟨"StatuteConsolidator$Input", "readInstructions", "(LStatuteConsolidator$Amendments;I)I"⟩, 3), (⟨"StatuteConsolidator$Input", "readInstruction", "(LStatuteConsolidator$Amendments;I)Z"⟩, 3), (⟨"StatuteConsolidator$Input", "readKind", "()I"⟩, 3), (⟨"StatuteConsolidator$Input", "matchingLength", "(Ljava/lang/String;)I"⟩, 3), (⟨"StatuteConsolidator$Input", "take", "(I)Z"⟩, 3)]
theorem lw_r1 : ∀ q ∈ lw_privs_1, lw_okq q := List.forall_mem_cons.mpr ⟨lw_p0, List.forall_mem_cons.mpr ⟨lw_p1, List.forall_mem_cons.mpr ⟨lw_p2, List.forall_mem_cons.mpr ⟨lw_p3, List.forall_mem_cons.mpr ⟨lw_p4, List.forall_mem_cons.mpr ⟨lw_p5, List.forall_mem_cons.mpr ⟨lw_p6, List.forall_mem_cons.mpr ⟨lw_p7, List.forall_mem_cons.mpr ⟨lw_p8, List.forall_mem_cons.mpr ⟨lw_p9, List.forall_mem_cons.mpr ⟨lw_p10, List.forall_mem_cons.mpr ⟨lw_p11, List.forall_mem_cons.mpr ⟨lw_p12, List.forall_mem_cons.mpr ⟨lw_p13, List.forall_mem_cons.mpr ⟨lw_p14, List.forall_mem_cons.mpr ⟨lw_p15, fun _ h => absurd h List.not_mem_nil⟩⟩⟩⟩⟩⟩⟩⟩⟩⟩⟩⟩⟩⟩⟩⟩
theorem lw_p16 : lw_okq (⟨"StatuteConsolidator$Input", "peek", "()I"⟩, 3) := ⟨⟨by decide +kernel, by decide +kernel⟩, List.mem_of_getElem? (i := 134) (by decide +kernel), List.mem_of_getElem? (i := 434) (by decide +kernel), List.mem_of_getElem? (i := 435) (by decide +kernel)⟩
theorem lw_p17 : lw_okq (⟨"StatuteConsolidator$Input", "readPath", "()J"⟩, 3) := ⟨⟨by decide +kernel, by decide +kernel⟩, List.mem_of_getElem? (i := 134) (by decide +kernel), List.mem_of_getElem? (i := 438) (by decide +kernel), List.mem_of_getElem? (i := 439) (by decide +kernel)⟩
theorem lw_p18 : lw_okq (⟨"StatuteConsolidator$Input", "readLabel", "()I"⟩, 3) := ⟨⟨by decide +kernel, by decide +kernel⟩, List.mem_of_getElem? (i := 134) (by decide +kernel), List.mem_of_getElem? (i := 442) (by decide +kernel), List.mem_of_getElem? (i := 443) (by decide +kernel)⟩
theorem lw_p19 : lw_okq (⟨"StatuteConsolidator$Input", "isNextBetween", "(II)Z"⟩, 3) := ⟨⟨by decide +kernel, by decide +kernel⟩, List.mem_of_getElem? (i := 134) (by decide +kernel), List.mem_of_getElem? (i := 446) (by decide +kernel), List.mem_of_getElem? (i := 447) (by decide +kernel)⟩
theorem lw_p20 : lw_okq (⟨"StatuteConsolidator$Input", "takeDigit", "()I"⟩, 3) := ⟨⟨by decide +kernel, by decide +kernel⟩, List.mem_of_getElem? (i := 134) (by decide +kernel), List.mem_of_getElem? (i := 450) (by decide +kernel), List.mem_of_getElem? (i := 451) (by decide +kernel)⟩
theorem lw_p21 : lw_okq (⟨"StatuteConsolidator$Input", "readText", "()I"⟩, 3) := ⟨⟨by decide +kernel, by decide +kernel⟩, List.mem_of_getElem? (i := 134) (by decide +kernel), List.mem_of_getElem? (i := 456) (by decide +kernel), List.mem_of_getElem? (i := 457) (by decide +kernel)⟩
theorem lw_p22 : lw_okq (⟨"StatuteConsolidator$Amendments", "has", "(I)Z"⟩, 7) := ⟨⟨by decide +kernel, by decide +kernel⟩, List.mem_of_getElem? (i := 74) (by decide +kernel), List.mem_of_getElem? (i := 469) (by decide +kernel), List.mem_of_getElem? (i := 470) (by decide +kernel)⟩
theorem lw_p23 : lw_okq (⟨"StatuteConsolidator$Version", "compute", "(LStatuteConsolidator$Statute;I)Z"⟩, 5) := ⟨⟨by decide +kernel, by decide +kernel⟩, List.mem_of_getElem? (i := 177) (by decide +kernel), List.mem_of_getElem? (i := 485) (by decide +kernel), List.mem_of_getElem? (i := 486) (by decide +kernel)⟩
theorem lw_p24 : lw_okq (⟨"StatuteConsolidator$Version", "start", "(LStatuteConsolidator$Statute;)V"⟩, 5) := ⟨⟨by decide +kernel, by decide +kernel⟩, List.mem_of_getElem? (i := 177) (by decide +kernel), List.mem_of_getElem? (i := 489) (by decide +kernel), List.mem_of_getElem? (i := 490) (by decide +kernel)⟩
theorem lw_p25 : lw_okq (⟨"StatuteConsolidator$Provisions", "copyFrom", "(LStatuteConsolidator$Provisions;)V"⟩, 6) := ⟨⟨by decide +kernel, by decide +kernel⟩, List.mem_of_getElem? (i := 33) (by decide +kernel), List.mem_of_getElem? (i := 493) (by decide +kernel), List.mem_of_getElem? (i := 494) (by decide +kernel)⟩
theorem lw_p26 : lw_okq (⟨"StatuteConsolidator$Amendments", "nextAfter", "(I)I"⟩, 7) := ⟨⟨by decide +kernel, by decide +kernel⟩, List.mem_of_getElem? (i := 74) (by decide +kernel), List.mem_of_getElem? (i := 497) (by decide +kernel), List.mem_of_getElem? (i := 498) (by decide +kernel)⟩
theorem lw_p27 : lw_okq (⟨"StatuteConsolidator$Amendments", "isBefore", "(II)Z"⟩, 7) := ⟨⟨by decide +kernel, by decide +kernel⟩, List.mem_of_getElem? (i := 74) (by decide +kernel), List.mem_of_getElem? (i := 501) (by decide +kernel), List.mem_of_getElem? (i := 502) (by decide +kernel)⟩
theorem lw_p28 : lw_okq (⟨"StatuteConsolidator$Version", "apply", "(LStatuteConsolidator$Amendments;I)V"⟩, 5) := ⟨⟨by decide +kernel, by decide +kernel⟩, List.mem_of_getElem? (i := 177) (by decide +kernel), List.mem_of_getElem? (i := 505) (by decide +kernel), List.mem_of_getElem? (i := 506) (by decide +kernel)⟩
theorem lw_p29 : lw_okq (⟨"StatuteConsolidator$Version", "reasonAgainst", "(LStatuteConsolidator$Amendments;I)I"⟩, 5) := ⟨⟨by decide +kernel, by decide +kernel⟩, List.mem_of_getElem? (i := 177) (by decide +kernel), List.mem_of_getElem? (i := 510) (by decide +kernel), List.mem_of_getElem? (i := 511) (by decide +kernel)⟩
theorem lw_p30 : lw_okq (⟨"StatuteConsolidator$Provisions", "positionOf", "(J)I"⟩, 6) := ⟨⟨by decide +kernel, by decide +kernel⟩, List.mem_of_getElem? (i := 33) (by decide +kernel), List.mem_of_getElem? (i := 514) (by decide +kernel), List.mem_of_getElem? (i := 515) (by decide +kernel)⟩
theorem lw_p31 : lw_okq (⟨"StatuteConsolidator$Version", "carryOut", "(LStatuteConsolidator$Amendments;II)I"⟩, 5) := ⟨⟨by decide +kernel, by decide +kernel⟩, List.mem_of_getElem? (i := 177) (by decide +kernel), List.mem_of_getElem? (i := 519) (by decide +kernel), List.mem_of_getElem? (i := 520) (by decide +kernel)⟩
def lw_privs_2 : List (MethodName × Nat) := [(⟨"StatuteConsolidator$Input", "peek", "()I"⟩, 3), (⟨"StatuteConsolidator$Input", "readPath", "()J"⟩, 3), (⟨"StatuteConsolidator$Input", "readLabel", "()I"⟩, 3), (⟨"StatuteConsolidator$Input", "isNextBetween", "(II)Z"⟩, 3), (⟨"StatuteConsolidator$Input", "takeDigit", "()I"⟩, 3), (⟨"StatuteConsolidator$Input", "readText", "()I"⟩, 3), (⟨"StatuteConsolidator$Amendments", "has", "(I)Z"⟩, 7), (⟨"StatuteConsolidator$Version", "compute", "(LStatuteConsolidator$Statute;I)Z"⟩, 5), (⟨"StatuteConsolidator$Version", "start", "(LStatuteConsolidator$Statute;)V"⟩, 5), (⟨"StatuteConsolidator$Provisions", "copyFrom", "(LStatuteConsolidator$Provisions;)V"⟩, 6), (⟨"StatuteConsolidator$Amendments", "nextAfter", "(I)I"⟩, 7), (⟨"StatuteConsolidator$Amendments", "isBefore", "(II)Z"⟩, 7), (⟨"StatuteConsolidator$Version", "apply", "(LStatuteConsolidator$Amendments;I)V"⟩, 5), (⟨"StatuteConsolidator$Version", "reasonAgainst", "(LStatuteConsolidator$Amendments;I)I"⟩, 5), (⟨"StatuteConsolidator$Provisions", "positionOf", "(J)I"⟩, 6), (⟨"StatuteConsolidator$Version", "carryOut", "(LStatuteConsolidator$Amendments;II)I"⟩, 5)]
theorem lw_r2 : ∀ q ∈ lw_privs_2, lw_okq q := List.forall_mem_cons.mpr ⟨lw_p16, List.forall_mem_cons.mpr ⟨lw_p17, List.forall_mem_cons.mpr ⟨lw_p18, List.forall_mem_cons.mpr ⟨lw_p19, List.forall_mem_cons.mpr ⟨lw_p20, List.forall_mem_cons.mpr ⟨lw_p21, List.forall_mem_cons.mpr ⟨lw_p22, List.forall_mem_cons.mpr ⟨lw_p23, List.forall_mem_cons.mpr ⟨lw_p24, List.forall_mem_cons.mpr ⟨lw_p25, List.forall_mem_cons.mpr ⟨lw_p26, List.forall_mem_cons.mpr ⟨lw_p27, List.forall_mem_cons.mpr ⟨lw_p28, List.forall_mem_cons.mpr ⟨lw_p29, List.forall_mem_cons.mpr ⟨lw_p30, List.forall_mem_cons.mpr ⟨lw_p31, fun _ h => absurd h List.not_mem_nil⟩⟩⟩⟩⟩⟩⟩⟩⟩⟩⟩⟩⟩⟩⟩⟩
theorem lw_p32 : lw_okq (⟨"StatuteConsolidator$Version", "insertAfter", "(JII)I"⟩, 5) := ⟨⟨by decide +kernel, by decide +kernel⟩, List.mem_of_getElem? (i := 177) (by decide +kernel), List.mem_of_getElem? (i := 523) (by decide +kernel), List.mem_of_getElem? (i := 524) (by decide +kernel)⟩
theorem lw_p33 : lw_okq (⟨"StatuteConsolidator$Version", "addChild", "(JII)I"⟩, 5) := ⟨⟨by decide +kernel, by decide +kernel⟩, List.mem_of_getElem? (i := 177) (by decide +kernel), List.mem_of_getElem? (i := 531) (by decide +kernel), List.mem_of_getElem? (i := 532) (by decide +kernel)⟩
theorem lw_p34 : lw_okq (⟨"StatuteConsolidator$Version", "replaceText", "(JI)I"⟩, 5) := ⟨⟨by decide +kernel, by decide +kernel⟩, List.mem_of_getElem? (i := 177) (by decide +kernel), List.mem_of_getElem? (i := 537) (by decide +kernel), List.mem_of_getElem? (i := 538) (by decide +kernel)⟩
theorem lw_p35 : lw_okq (⟨"StatuteConsolidator$Provisions", "repeal", "(J)V"⟩, 6) := ⟨⟨by decide +kernel, by decide +kernel⟩, List.mem_of_getElem? (i := 33) (by decide +kernel), List.mem_of_getElem? (i := 541) (by decide +kernel), List.mem_of_getElem? (i := 542) (by decide +kernel)⟩
theorem lw_p36 : lw_okq (⟨"StatuteConsolidator$Version", "moveAfter", "(JJ)I"⟩, 5) := ⟨⟨by decide +kernel, by decide +kernel⟩, List.mem_of_getElem? (i := 177) (by decide +kernel), List.mem_of_getElem? (i := 548) (by decide +kernel), List.mem_of_getElem? (i := 549) (by decide +kernel)⟩
theorem lw_p37 : lw_okq (⟨"StatuteConsolidator$Provisions", "changePath", "(JJ)V"⟩, 6) := ⟨⟨by decide +kernel, by decide +kernel⟩, List.mem_of_getElem? (i := 33) (by decide +kernel), List.mem_of_getElem? (i := 552) (by decide +kernel), List.mem_of_getElem? (i := 553) (by decide +kernel)⟩
theorem lw_p38 : lw_okq (⟨"StatuteConsolidator$Provisions", "renumberChildren", "(J)V"⟩, 6) := ⟨⟨by decide +kernel, by decide +kernel⟩, List.mem_of_getElem? (i := 33) (by decide +kernel), List.mem_of_getElem? (i := 559) (by decide +kernel), List.mem_of_getElem? (i := 560) (by decide +kernel)⟩
theorem lw_p39 : lw_okq (⟨"StatuteConsolidator$Version", "keepConflict", "(III)V"⟩, 5) := ⟨⟨by decide +kernel, by decide +kernel⟩, List.mem_of_getElem? (i := 177) (by decide +kernel), List.mem_of_getElem? (i := 564) (by decide +kernel), List.mem_of_getElem? (i := 565) (by decide +kernel)⟩
theorem lw_p40 : lw_okq (⟨"StatuteConsolidator", "refusalAt", "(II)I"⟩, 7) := ⟨⟨by decide +kernel, by decide +kernel⟩, List.mem_of_getElem? (i := 19) (by decide +kernel), List.mem_of_getElem? (i := 572) (by decide +kernel), List.mem_of_getElem? (i := 573) (by decide +kernel)⟩
theorem lw_p41 : lw_okq (⟨"StatuteConsolidator$Provisions", "has", "(I)Z"⟩, 6) := ⟨⟨by decide +kernel, by decide +kernel⟩, List.mem_of_getElem? (i := 33) (by decide +kernel), List.mem_of_getElem? (i := 576) (by decide +kernel), List.mem_of_getElem? (i := 577) (by decide +kernel)⟩
theorem lw_p42 : lw_okq (⟨"StatuteConsolidator$Input", "readOnlyPath", "()J"⟩, 3) := ⟨⟨by decide +kernel, by decide +kernel⟩, List.mem_of_getElem? (i := 134) (by decide +kernel), List.mem_of_getElem? (i := 628) (by decide +kernel), List.mem_of_getElem? (i := 629) (by decide +kernel)⟩
theorem lw_p43 : lw_okq (⟨"StatuteConsolidator$Provisions", "firstDifferenceFrom", "(LStatuteConsolidator$Provisions;)I"⟩, 6) := ⟨⟨by decide +kernel, by decide +kernel⟩, List.mem_of_getElem? (i := 33) (by decide +kernel), List.mem_of_getElem? (i := 637) (by decide +kernel), List.mem_of_getElem? (i := 638) (by decide +kernel)⟩
theorem lw_p44 : lw_okq (⟨"StatuteConsolidator$Provisions", "differsAt", "(ILStatuteConsolidator$Provisions;)Z"⟩, 6) := ⟨⟨by decide +kernel, by decide +kernel⟩, List.mem_of_getElem? (i := 33) (by decide +kernel), List.mem_of_getElem? (i := 641) (by decide +kernel), List.mem_of_getElem? (i := 642) (by decide +kernel)⟩
theorem lw_p45 : lw_okq (⟨"StatuteConsolidator$Statute", "referenceCountOf", "(I)I"⟩, 4) := ⟨⟨by decide +kernel, by decide +kernel⟩, List.mem_of_getElem? (i := 27) (by decide +kernel), List.mem_of_getElem? (i := 649) (by decide +kernel), List.mem_of_getElem? (i := 650) (by decide +kernel)⟩
theorem lw_p46 : lw_okq (⟨"StatuteConsolidator$Provisions", "positionInForce", "(I)I"⟩, 6) := ⟨⟨by decide +kernel, by decide +kernel⟩, List.mem_of_getElem? (i := 33) (by decide +kernel), List.mem_of_getElem? (i := 658) (by decide +kernel), List.mem_of_getElem? (i := 659) (by decide +kernel)⟩
theorem lw_p47 : lw_okq (⟨"StatuteConsolidator", "danglingReferencesOf", "(I)I"⟩, 7) := ⟨⟨by decide +kernel, by decide +kernel⟩, List.mem_of_getElem? (i := 19) (by decide +kernel), List.mem_of_getElem? (i := 667) (by decide +kernel), List.mem_of_getElem? (i := 668) (by decide +kernel)⟩
def lw_privs_3 : List (MethodName × Nat) := [(⟨"StatuteConsolidator$Version", "insertAfter", "(JII)I"⟩, 5), (⟨"StatuteConsolidator$Version", "addChild", "(JII)I"⟩, 5), (⟨"StatuteConsolidator$Version", "replaceText", "(JI)I"⟩, 5), (⟨"StatuteConsolidator$Provisions", "repeal", "(J)V"⟩, 6), (⟨"StatuteConsolidator$Version", "moveAfter", "(JJ)I"⟩, 5), (⟨"StatuteConsolidator$Provisions", "changePath", "(JJ)V"⟩, 6), (⟨"StatuteConsolidator$Provisions", "renumberChildren", "(J)V"⟩, 6), (⟨"StatuteConsolidator$Version", "keepConflict", "(III)V"⟩, 5), (⟨"StatuteConsolidator", "refusalAt", "(II)I"⟩, 7), (⟨"StatuteConsolidator$Provisions", "has", "(I)Z"⟩, 6), (⟨"StatuteConsolidator$Input", "readOnlyPath", "()J"⟩, 3), (⟨"StatuteConsolidator$Provisions", "firstDifferenceFrom", "(LStatuteConsolidator$Provisions;)I"⟩, 6), (⟨"StatuteConsolidator$Provisions", "differsAt", "(ILStatuteConsolidator$Provisions;)Z"⟩, 6), (⟨"StatuteConsolidator$Statute", "referenceCountOf", "(I)I"⟩, 4), (⟨"StatuteConsolidator$Provisions", "positionInForce", "(I)I"⟩, 6), (⟨"StatuteConsolidator", "danglingReferencesOf", "(I)I"⟩, 7)]
theorem lw_r3 : ∀ q ∈ lw_privs_3, lw_okq q := List.forall_mem_cons.mpr ⟨lw_p32, List.forall_mem_cons.mpr ⟨lw_p33, List.forall_mem_cons.mpr ⟨lw_p34, List.forall_mem_cons.mpr ⟨lw_p35, List.forall_mem_cons.mpr ⟨lw_p36, List.forall_mem_cons.mpr ⟨lw_p37, List.forall_mem_cons.mpr ⟨lw_p38, List.forall_mem_cons.mpr ⟨lw_p39, List.forall_mem_cons.mpr ⟨lw_p40, List.forall_mem_cons.mpr ⟨lw_p41, List.forall_mem_cons.mpr ⟨lw_p42, List.forall_mem_cons.mpr ⟨lw_p43, List.forall_mem_cons.mpr ⟨lw_p44, List.forall_mem_cons.mpr ⟨lw_p45, List.forall_mem_cons.mpr ⟨lw_p46, List.forall_mem_cons.mpr ⟨lw_p47, fun _ h => absurd h List.not_mem_nil⟩⟩⟩⟩⟩⟩⟩⟩⟩⟩⟩⟩⟩⟩⟩⟩
theorem lw_p48 : lw_okq (⟨"StatuteConsolidator$Version", "hasConflict", "(I)Z"⟩, 5) := ⟨⟨by decide +kernel, by decide +kernel⟩, List.mem_of_getElem? (i := 177) (by decide +kernel), List.mem_of_getElem? (i := 679) (by decide +kernel), List.mem_of_getElem? (i := 680) (by decide +kernel)⟩
theorem lw_p49 : lw_okq (⟨"StatuteConsolidator$Version", "computeFromTwo", "(LStatuteConsolidator$Statute;II)V"⟩, 5) := ⟨⟨by decide +kernel, by decide +kernel⟩, List.mem_of_getElem? (i := 177) (by decide +kernel), List.mem_of_getElem? (i := 695) (by decide +kernel), List.mem_of_getElem? (i := 696) (by decide +kernel)⟩
theorem lw_p50 : lw_okq (⟨"StatuteConsolidator$Provisions", "isSameResultAs", "(LStatuteConsolidator$Provisions;)Z"⟩, 6) := ⟨⟨by decide +kernel, by decide +kernel⟩, List.mem_of_getElem? (i := 33) (by decide +kernel), List.mem_of_getElem? (i := 699) (by decide +kernel), List.mem_of_getElem? (i := 700) (by decide +kernel)⟩
theorem lw_p51 : lw_okq (⟨"StatuteConsolidator$Shelves", "fillWithMissing", "(III)V"⟩, 4) := ⟨⟨by decide +kernel, by decide +kernel⟩, List.mem_of_getElem? (i := 153) (by decide +kernel), List.mem_of_getElem? (i := 726) (by decide +kernel), List.mem_of_getElem? (i := 727) (by decide +kernel)⟩
theorem lw_p52 : lw_okq (⟨"StatuteConsolidator$Shelves", "refusalOf", "(II)I"⟩, 4) := ⟨⟨by decide +kernel, by decide +kernel⟩, List.mem_of_getElem? (i := 153) (by decide +kernel), List.mem_of_getElem? (i := 734) (by decide +kernel), List.mem_of_getElem? (i := 735) (by decide +kernel)⟩
theorem lw_p53 : lw_okq (⟨"StatuteConsolidator$Shelves", "copyArray", "(II)V"⟩, 4) := ⟨⟨by decide +kernel, by decide +kernel⟩, List.mem_of_getElem? (i := 153) (by decide +kernel), List.mem_of_getElem? (i := 746) (by decide +kernel), List.mem_of_getElem? (i := 747) (by decide +kernel)⟩
theorem lw_p54 : lw_okq (⟨"StatuteConsolidator$Statute", "copyFrom", "(LStatuteConsolidator$Statute;)V"⟩, 4) := ⟨⟨by decide +kernel, by decide +kernel⟩, List.mem_of_getElem? (i := 27) (by decide +kernel), List.mem_of_getElem? (i := 757) (by decide +kernel), List.mem_of_getElem? (i := 758) (by decide +kernel)⟩
theorem lw_p55 : lw_okq (⟨"StatuteConsolidator$Amendments", "copyFrom", "(LStatuteConsolidator$Amendments;)V"⟩, 7) := ⟨⟨by decide +kernel, by decide +kernel⟩, List.mem_of_getElem? (i := 74) (by decide +kernel), List.mem_of_getElem? (i := 763) (by decide +kernel), List.mem_of_getElem? (i := 764) (by decide +kernel)⟩
theorem lw_p56 : lw_okq (⟨"StatuteConsolidatorModel", "isOriginal", "(I)Z"⟩, 57) := ⟨⟨by decide +kernel, by decide +kernel⟩, List.mem_of_getElem? (i := 772) (by decide +kernel), List.mem_of_getElem? (i := 957) (by decide +kernel), List.mem_of_getElem? (i := 958) (by decide +kernel)⟩
theorem lw_p57 : lw_okq (⟨"StatuteConsolidatorModel", "levelOf", "(I)I"⟩, 57) := ⟨⟨by decide +kernel, by decide +kernel⟩, List.mem_of_getElem? (i := 772) (by decide +kernel), List.mem_of_getElem? (i := 964) (by decide +kernel), List.mem_of_getElem? (i := 965) (by decide +kernel)⟩
theorem lw_p58 : lw_okq (⟨"StatuteConsolidatorModel", "beginVersion", "()V"⟩, 57) := ⟨⟨by decide +kernel, by decide +kernel⟩, List.mem_of_getElem? (i := 772) (by decide +kernel), List.mem_of_getElem? (i := 968) (by decide +kernel), List.mem_of_getElem? (i := 969) (by decide +kernel)⟩
theorem lw_p59 : lw_okq (⟨"StatuteConsolidatorModel", "newNode", "(IIIIII)I"⟩, 57) := ⟨⟨by decide +kernel, by decide +kernel⟩, List.mem_of_getElem? (i := 772) (by decide +kernel), List.mem_of_getElem? (i := 972) (by decide +kernel), List.mem_of_getElem? (i := 973) (by decide +kernel)⟩
theorem lw_p60 : lw_okq (⟨"StatuteConsolidatorModel", "labelAtEnd", "(I)I"⟩, 57) := ⟨⟨by decide +kernel, by decide +kernel⟩, List.mem_of_getElem? (i := 772) (by decide +kernel), List.mem_of_getElem? (i := 976) (by decide +kernel), List.mem_of_getElem? (i := 977) (by decide +kernel)⟩
theorem lw_p61 : lw_okq (⟨"StatuteConsolidatorModel", "lastChild", "(I)I"⟩, 57) := ⟨⟨by decide +kernel, by decide +kernel⟩, List.mem_of_getElem? (i := 772) (by decide +kernel), List.mem_of_getElem? (i := 980) (by decide +kernel), List.mem_of_getElem? (i := 981) (by decide +kernel)⟩
theorem lw_p62 : lw_okq (⟨"StatuteConsolidatorModel", "addOriginal", "(III)I"⟩, 57) := ⟨⟨by decide +kernel, by decide +kernel⟩, List.mem_of_getElem? (i := 772) (by decide +kernel), List.mem_of_getElem? (i := 984) (by decide +kernel), List.mem_of_getElem? (i := 985) (by decide +kernel)⟩
theorem lw_p63 : lw_okq (⟨"StatuteConsolidatorModel", "labelAfter", "(I)I"⟩, 57) := ⟨⟨by decide +kernel, by decide +kernel⟩, List.mem_of_getElem? (i := 772) (by decide +kernel), List.mem_of_getElem? (i := 992) (by decide +kernel), List.mem_of_getElem? (i := 993) (by decide +kernel)⟩
def lw_privs_4 : List (MethodName × Nat) := [(⟨"StatuteConsolidator$Version", "hasConflict", "(I)Z"⟩, 5), (⟨"StatuteConsolidator$Version", "computeFromTwo", "(LStatuteConsolidator$Statute;II)V"⟩, 5), (⟨"StatuteConsolidator$Provisions", "isSameResultAs", "(LStatuteConsolidator$Provisions;)Z"⟩, 6), (⟨"StatuteConsolidator$Shelves", "fillWithMissing", "(III)V"⟩, 4), (⟨"StatuteConsolidator$Shelves", "refusalOf", "(II)I"⟩, 4), (⟨"StatuteConsolidator$Shelves", "copyArray", "(II)V"⟩, 4), (⟨"StatuteConsolidator$Statute", "copyFrom", "(LStatuteConsolidator$Statute;)V"⟩, 4), (⟨"StatuteConsolidator$Amendments", "copyFrom", "(LStatuteConsolidator$Amendments;)V"⟩, 7), (⟨"StatuteConsolidatorModel", "isOriginal", "(I)Z"⟩, 57), (⟨"StatuteConsolidatorModel", "levelOf", "(I)I"⟩, 57), (⟨"StatuteConsolidatorModel", "beginVersion", "()V"⟩, 57), (⟨"StatuteConsolidatorModel", "newNode", "(IIIIII)I"⟩, 57), (⟨"StatuteConsolidatorModel", "labelAtEnd", "(I)I"⟩, 57), (⟨"StatuteConsolidatorModel", "lastChild", "(I)I"⟩, 57), (⟨"StatuteConsolidatorModel", "addOriginal", "(III)I"⟩, 57), (⟨"StatuteConsolidatorModel", "labelAfter", "(I)I"⟩, 57)]
theorem lw_r4 : ∀ q ∈ lw_privs_4, lw_okq q := List.forall_mem_cons.mpr ⟨lw_p48, List.forall_mem_cons.mpr ⟨lw_p49, List.forall_mem_cons.mpr ⟨lw_p50, List.forall_mem_cons.mpr ⟨lw_p51, List.forall_mem_cons.mpr ⟨lw_p52, List.forall_mem_cons.mpr ⟨lw_p53, List.forall_mem_cons.mpr ⟨lw_p54, List.forall_mem_cons.mpr ⟨lw_p55, List.forall_mem_cons.mpr ⟨lw_p56, List.forall_mem_cons.mpr ⟨lw_p57, List.forall_mem_cons.mpr ⟨lw_p58, List.forall_mem_cons.mpr ⟨lw_p59, List.forall_mem_cons.mpr ⟨lw_p60, List.forall_mem_cons.mpr ⟨lw_p61, List.forall_mem_cons.mpr ⟨lw_p62, List.forall_mem_cons.mpr ⟨lw_p63, fun _ h => absurd h List.not_mem_nil⟩⟩⟩⟩⟩⟩⟩⟩⟩⟩⟩⟩⟩⟩⟩⟩
theorem lw_p64 : lw_okq (⟨"StatuteConsolidatorModel", "nextChild", "(II)I"⟩, 57) := ⟨⟨by decide +kernel, by decide +kernel⟩, List.mem_of_getElem? (i := 772) (by decide +kernel), List.mem_of_getElem? (i := 996) (by decide +kernel), List.mem_of_getElem? (i := 997) (by decide +kernel)⟩
theorem lw_p65 : lw_okq (⟨"StatuteConsolidatorModel", "emptyShelves", "()V"⟩, 57) := ⟨⟨by decide +kernel, by decide +kernel⟩, List.mem_of_getElem? (i := 772) (by decide +kernel), List.mem_of_getElem? (i := 1021) (by decide +kernel), List.mem_of_getElem? (i := 1022) (by decide +kernel)⟩
theorem lw_p66 : lw_okq (⟨"StatuteConsolidatorModel", "readAmendment", "(I)I"⟩, 57) := ⟨⟨by decide +kernel, by decide +kernel⟩, List.mem_of_getElem? (i := 772) (by decide +kernel), List.mem_of_getElem? (i := 1041) (by decide +kernel), List.mem_of_getElem? (i := 1042) (by decide +kernel)⟩
theorem lw_p67 : lw_okq (⟨"StatuteConsolidatorModel", "parseInstruction", "(I)V"⟩, 57) := ⟨⟨by decide +kernel, by decide +kernel⟩, List.mem_of_getElem? (i := 772) (by decide +kernel), List.mem_of_getElem? (i := 1045) (by decide +kernel), List.mem_of_getElem? (i := 1046) (by decide +kernel)⟩
theorem lw_p68 : lw_okq (⟨"StatuteConsolidatorModel", "parseKeyword", "()I"⟩, 57) := ⟨⟨by decide +kernel, by decide +kernel⟩, List.mem_of_getElem? (i := 772) (by decide +kernel), List.mem_of_getElem? (i := 1049) (by decide +kernel), List.mem_of_getElem? (i := 1050) (by decide +kernel)⟩
theorem lw_p69 : lw_okq (⟨"StatuteConsolidatorModel", "parsePath", "([II)V"⟩, 57) := ⟨⟨by decide +kernel, by decide +kernel⟩, List.mem_of_getElem? (i := 772) (by decide +kernel), List.mem_of_getElem? (i := 1064) (by decide +kernel), List.mem_of_getElem? (i := 1065) (by decide +kernel)⟩
theorem lw_p70 : lw_okq (⟨"StatuteConsolidatorModel", "parseLabel", "()I"⟩, 57) := ⟨⟨by decide +kernel, by decide +kernel⟩, List.mem_of_getElem? (i := 772) (by decide +kernel), List.mem_of_getElem? (i := 1068) (by decide +kernel), List.mem_of_getElem? (i := 1069) (by decide +kernel)⟩
theorem lw_p71 : lw_okq (⟨"StatuteConsolidatorModel", "isNext", "(II)Z"⟩, 57) := ⟨⟨by decide +kernel, by decide +kernel⟩, List.mem_of_getElem? (i := 772) (by decide +kernel), List.mem_of_getElem? (i := 1072) (by decide +kernel), List.mem_of_getElem? (i := 1073) (by decide +kernel)⟩
theorem lw_p72 : lw_okq (⟨"StatuteConsolidatorModel", "accept", "(I)Z"⟩, 57) := ⟨⟨by decide +kernel, by decide +kernel⟩, List.mem_of_getElem? (i := 772) (by decide +kernel), List.mem_of_getElem? (i := 1076) (by decide +kernel), List.mem_of_getElem? (i := 1077) (by decide +kernel)⟩
theorem lw_p73 : lw_okq (⟨"StatuteConsolidatorModel", "expect", "(I)V"⟩, 57) := ⟨⟨by decide +kernel, by decide +kernel⟩, List.mem_of_getElem? (i := 772) (by decide +kernel), List.mem_of_getElem? (i := 1080) (by decide +kernel), List.mem_of_getElem? (i := 1081) (by decide +kernel)⟩
theorem lw_p74 : lw_okq (⟨"StatuteConsolidatorModel", "parseNumber", "()I"⟩, 57) := ⟨⟨by decide +kernel, by decide +kernel⟩, List.mem_of_getElem? (i := 772) (by decide +kernel), List.mem_of_getElem? (i := 1084) (by decide +kernel), List.mem_of_getElem? (i := 1085) (by decide +kernel)⟩
theorem lw_p75 : lw_okq (⟨"StatuteConsolidatorModel", "isAmendment", "(I)Z"⟩, 57) := ⟨⟨by decide +kernel, by decide +kernel⟩, List.mem_of_getElem? (i := 772) (by decide +kernel), List.mem_of_getElem? (i := 1096) (by decide +kernel), List.mem_of_getElem? (i := 1097) (by decide +kernel)⟩
theorem lw_p76 : lw_okq (⟨"StatuteConsolidatorModel", "compute", "(I)Z"⟩, 57) := ⟨⟨by decide +kernel, by decide +kernel⟩, List.mem_of_getElem? (i := 772) (by decide +kernel), List.mem_of_getElem? (i := 1112) (by decide +kernel), List.mem_of_getElem? (i := 1113) (by decide +kernel)⟩
theorem lw_p77 : lw_okq (⟨"StatuteConsolidatorModel", "nextDay", "(II)I"⟩, 57) := ⟨⟨by decide +kernel, by decide +kernel⟩, List.mem_of_getElem? (i := 772) (by decide +kernel), List.mem_of_getElem? (i := 1116) (by decide +kernel), List.mem_of_getElem? (i := 1117) (by decide +kernel)⟩
theorem lw_p78 : lw_okq (⟨"StatuteConsolidatorModel", "applyAmendment", "(I)V"⟩, 57) := ⟨⟨by decide +kernel, by decide +kernel⟩, List.mem_of_getElem? (i := 772) (by decide +kernel), List.mem_of_getElem? (i := 1120) (by decide +kernel), List.mem_of_getElem? (i := 1121) (by decide +kernel)⟩
theorem lw_p79 : lw_okq (⟨"StatuteConsolidatorModel", "apply", "(II)I"⟩, 57) := ⟨⟨by decide +kernel, by decide +kernel⟩, List.mem_of_getElem? (i := 772) (by decide +kernel), List.mem_of_getElem? (i := 1124) (by decide +kernel), List.mem_of_getElem? (i := 1125) (by decide +kernel)⟩
def lw_privs_5 : List (MethodName × Nat) := [(⟨"StatuteConsolidatorModel", "nextChild", "(II)I"⟩, 57), (⟨"StatuteConsolidatorModel", "emptyShelves", "()V"⟩, 57), (⟨"StatuteConsolidatorModel", "readAmendment", "(I)I"⟩, 57), (⟨"StatuteConsolidatorModel", "parseInstruction", "(I)V"⟩, 57), (⟨"StatuteConsolidatorModel", "parseKeyword", "()I"⟩, 57), (⟨"StatuteConsolidatorModel", "parsePath", "([II)V"⟩, 57), (⟨"StatuteConsolidatorModel", "parseLabel", "()I"⟩, 57), (⟨"StatuteConsolidatorModel", "isNext", "(II)Z"⟩, 57), (⟨"StatuteConsolidatorModel", "accept", "(I)Z"⟩, 57), (⟨"StatuteConsolidatorModel", "expect", "(I)V"⟩, 57), (⟨"StatuteConsolidatorModel", "parseNumber", "()I"⟩, 57), (⟨"StatuteConsolidatorModel", "isAmendment", "(I)Z"⟩, 57), (⟨"StatuteConsolidatorModel", "compute", "(I)Z"⟩, 57), (⟨"StatuteConsolidatorModel", "nextDay", "(II)I"⟩, 57), (⟨"StatuteConsolidatorModel", "applyAmendment", "(I)V"⟩, 57), (⟨"StatuteConsolidatorModel", "apply", "(II)I"⟩, 57)]
theorem lw_r5 : ∀ q ∈ lw_privs_5, lw_okq q := List.forall_mem_cons.mpr ⟨lw_p64, List.forall_mem_cons.mpr ⟨lw_p65, List.forall_mem_cons.mpr ⟨lw_p66, List.forall_mem_cons.mpr ⟨lw_p67, List.forall_mem_cons.mpr ⟨lw_p68, List.forall_mem_cons.mpr ⟨lw_p69, List.forall_mem_cons.mpr ⟨lw_p70, List.forall_mem_cons.mpr ⟨lw_p71, List.forall_mem_cons.mpr ⟨lw_p72, List.forall_mem_cons.mpr ⟨lw_p73, List.forall_mem_cons.mpr ⟨lw_p74, List.forall_mem_cons.mpr ⟨lw_p75, List.forall_mem_cons.mpr ⟨lw_p76, List.forall_mem_cons.mpr ⟨lw_p77, List.forall_mem_cons.mpr ⟨lw_p78, List.forall_mem_cons.mpr ⟨lw_p79, fun _ h => absurd h List.not_mem_nil⟩⟩⟩⟩⟩⟩⟩⟩⟩⟩⟩⟩⟩⟩⟩⟩
theorem lw_p80 : lw_okq (⟨"StatuteConsolidatorModel", "lookUp", "([II)I"⟩, 57) := ⟨⟨by decide +kernel, by decide +kernel⟩, List.mem_of_getElem? (i := 772) (by decide +kernel), List.mem_of_getElem? (i := 1128) (by decide +kernel), List.mem_of_getElem? (i := 1129) (by decide +kernel)⟩
theorem lw_p81 : lw_okq (⟨"StatuteConsolidatorModel", "repeal", "(I)V"⟩, 57) := ⟨⟨by decide +kernel, by decide +kernel⟩, List.mem_of_getElem? (i := 772) (by decide +kernel), List.mem_of_getElem? (i := 1132) (by decide +kernel), List.mem_of_getElem? (i := 1133) (by decide +kernel)⟩
theorem lw_p82 : lw_okq (⟨"StatuteConsolidatorModel", "isBelow", "(II)Z"⟩, 57) := ⟨⟨by decide +kernel, by decide +kernel⟩, List.mem_of_getElem? (i := 772) (by decide +kernel), List.mem_of_getElem? (i := 1136) (by decide +kernel), List.mem_of_getElem? (i := 1137) (by decide +kernel)⟩
theorem lw_p83 : lw_okq (⟨"StatuteConsolidatorModel", "renumber", "(I)V"⟩, 57) := ⟨⟨by decide +kernel, by decide +kernel⟩, List.mem_of_getElem? (i := 772) (by decide +kernel), List.mem_of_getElem? (i := 1140) (by decide +kernel), List.mem_of_getElem? (i := 1141) (by decide +kernel)⟩
theorem lw_p84 : lw_okq (⟨"StatuteConsolidatorModel", "remove", "(I)V"⟩, 57) := ⟨⟨by decide +kernel, by decide +kernel⟩, List.mem_of_getElem? (i := 772) (by decide +kernel), List.mem_of_getElem? (i := 1144) (by decide +kernel), List.mem_of_getElem? (i := 1145) (by decide +kernel)⟩
theorem lw_p85 : lw_okq (⟨"StatuteConsolidatorModel", "move", "(II)I"⟩, 57) := ⟨⟨by decide +kernel, by decide +kernel⟩, List.mem_of_getElem? (i := 772) (by decide +kernel), List.mem_of_getElem? (i := 1148) (by decide +kernel), List.mem_of_getElem? (i := 1149) (by decide +kernel)⟩
theorem lw_p86 : lw_okq (⟨"StatuteConsolidatorModel", "orderVersion", "()V"⟩, 57) := ⟨⟨by decide +kernel, by decide +kernel⟩, List.mem_of_getElem? (i := 772) (by decide +kernel), List.mem_of_getElem? (i := 1152) (by decide +kernel), List.mem_of_getElem? (i := 1153) (by decide +kernel)⟩
theorem lw_p87 : lw_okq (⟨"StatuteConsolidatorModel", "orderChildren", "(I)V"⟩, 57) := ⟨⟨by decide +kernel, by decide +kernel⟩, List.mem_of_getElem? (i := 772) (by decide +kernel), List.mem_of_getElem? (i := 1156) (by decide +kernel), List.mem_of_getElem? (i := 1157) (by decide +kernel)⟩
theorem lw_p88 : lw_okq (⟨"StatuteConsolidatorModel", "reach", "(II)I"⟩, 57) := ⟨⟨by decide +kernel, by decide +kernel⟩, List.mem_of_getElem? (i := 772) (by decide +kernel), List.mem_of_getElem? (i := 1164) (by decide +kernel), List.mem_of_getElem? (i := 1165) (by decide +kernel)⟩
theorem lw_p89 : lw_okq (⟨"StatuteConsolidatorModel", "writePath", "(I)V"⟩, 57) := ⟨⟨by decide +kernel, by decide +kernel⟩, List.mem_of_getElem? (i := 772) (by decide +kernel), List.mem_of_getElem? (i := 1180) (by decide +kernel), List.mem_of_getElem? (i := 1181) (by decide +kernel)⟩
theorem lw_p90 : lw_okq (⟨"StatuteConsolidatorModel", "writeLabel", "(I)V"⟩, 57) := ⟨⟨by decide +kernel, by decide +kernel⟩, List.mem_of_getElem? (i := 772) (by decide +kernel), List.mem_of_getElem? (i := 1184) (by decide +kernel), List.mem_of_getElem? (i := 1185) (by decide +kernel)⟩
theorem lw_p91 : lw_okq (⟨"StatuteConsolidatorModel", "write", "(I)V"⟩, 57) := ⟨⟨by decide +kernel, by decide +kernel⟩, List.mem_of_getElem? (i := 772) (by decide +kernel), List.mem_of_getElem? (i := 1188) (by decide +kernel), List.mem_of_getElem? (i := 1189) (by decide +kernel)⟩
theorem lw_p92 : lw_okq (⟨"StatuteConsolidatorModel", "positionOf", "(I)I"⟩, 57) := ⟨⟨by decide +kernel, by decide +kernel⟩, List.mem_of_getElem? (i := 772) (by decide +kernel), List.mem_of_getElem? (i := 1208) (by decide +kernel), List.mem_of_getElem? (i := 1209) (by decide +kernel)⟩
theorem lw_p93 : lw_okq (⟨"StatuteConsolidatorModel", "keep", "()V"⟩, 57) := ⟨⟨by decide +kernel, by decide +kernel⟩, List.mem_of_getElem? (i := 772) (by decide +kernel), List.mem_of_getElem? (i := 1216) (by decide +kernel), List.mem_of_getElem? (i := 1217) (by decide +kernel)⟩
theorem lw_p94 : lw_okq (⟨"StatuteConsolidatorModel", "labelAt", "(II)I"⟩, 57) := ⟨⟨by decide +kernel, by decide +kernel⟩, List.mem_of_getElem? (i := 772) (by decide +kernel), List.mem_of_getElem? (i := 1220) (by decide +kernel), List.mem_of_getElem? (i := 1221) (by decide +kernel)⟩
theorem lw_p95 : lw_okq (⟨"StatuteConsolidatorModel", "firstUnlike", "(Z)I"⟩, 57) := ⟨⟨by decide +kernel, by decide +kernel⟩, List.mem_of_getElem? (i := 772) (by decide +kernel), List.mem_of_getElem? (i := 1224) (by decide +kernel), List.mem_of_getElem? (i := 1225) (by decide +kernel)⟩
def lw_privs_6 : List (MethodName × Nat) := [(⟨"StatuteConsolidatorModel", "lookUp", "([II)I"⟩, 57), (⟨"StatuteConsolidatorModel", "repeal", "(I)V"⟩, 57), (⟨"StatuteConsolidatorModel", "isBelow", "(II)Z"⟩, 57), (⟨"StatuteConsolidatorModel", "renumber", "(I)V"⟩, 57), (⟨"StatuteConsolidatorModel", "remove", "(I)V"⟩, 57), (⟨"StatuteConsolidatorModel", "move", "(II)I"⟩, 57), (⟨"StatuteConsolidatorModel", "orderVersion", "()V"⟩, 57), (⟨"StatuteConsolidatorModel", "orderChildren", "(I)V"⟩, 57), (⟨"StatuteConsolidatorModel", "reach", "(II)I"⟩, 57), (⟨"StatuteConsolidatorModel", "writePath", "(I)V"⟩, 57), (⟨"StatuteConsolidatorModel", "writeLabel", "(I)V"⟩, 57), (⟨"StatuteConsolidatorModel", "write", "(I)V"⟩, 57), (⟨"StatuteConsolidatorModel", "positionOf", "(I)I"⟩, 57), (⟨"StatuteConsolidatorModel", "keep", "()V"⟩, 57), (⟨"StatuteConsolidatorModel", "labelAt", "(II)I"⟩, 57), (⟨"StatuteConsolidatorModel", "firstUnlike", "(Z)I"⟩, 57)]
theorem lw_r6 : ∀ q ∈ lw_privs_6, lw_okq q := List.forall_mem_cons.mpr ⟨lw_p80, List.forall_mem_cons.mpr ⟨lw_p81, List.forall_mem_cons.mpr ⟨lw_p82, List.forall_mem_cons.mpr ⟨lw_p83, List.forall_mem_cons.mpr ⟨lw_p84, List.forall_mem_cons.mpr ⟨lw_p85, List.forall_mem_cons.mpr ⟨lw_p86, List.forall_mem_cons.mpr ⟨lw_p87, List.forall_mem_cons.mpr ⟨lw_p88, List.forall_mem_cons.mpr ⟨lw_p89, List.forall_mem_cons.mpr ⟨lw_p90, List.forall_mem_cons.mpr ⟨lw_p91, List.forall_mem_cons.mpr ⟨lw_p92, List.forall_mem_cons.mpr ⟨lw_p93, List.forall_mem_cons.mpr ⟨lw_p94, List.forall_mem_cons.mpr ⟨lw_p95, fun _ h => absurd h List.not_mem_nil⟩⟩⟩⟩⟩⟩⟩⟩⟩⟩⟩⟩⟩⟩⟩⟩
theorem lw_p96 : lw_okq (⟨"StatuteConsolidatorModel", "isKept", "(IZ)Z"⟩, 57) := ⟨⟨by decide +kernel, by decide +kernel⟩, List.mem_of_getElem? (i := 772) (by decide +kernel), List.mem_of_getElem? (i := 1228) (by decide +kernel), List.mem_of_getElem? (i := 1229) (by decide +kernel)⟩
theorem lw_p97 : lw_okq (⟨"StatuteConsolidatorModel", "referencesOf", "(I)I"⟩, 57) := ⟨⟨by decide +kernel, by decide +kernel⟩, List.mem_of_getElem? (i := 772) (by decide +kernel), List.mem_of_getElem? (i := 1240) (by decide +kernel), List.mem_of_getElem? (i := 1241) (by decide +kernel)⟩
theorem lw_p98 : lw_okq (⟨"StatuteConsolidatorModel", "isDangling", "(I)Z"⟩, 57) := ⟨⟨by decide +kernel, by decide +kernel⟩, List.mem_of_getElem? (i := 772) (by decide +kernel), List.mem_of_getElem? (i := 1248) (by decide +kernel), List.mem_of_getElem? (i := 1249) (by decide +kernel)⟩
theorem lw_p99 : lw_okq (⟨"StatuteConsolidatorModel", "reachConflict", "(II)I"⟩, 57) := ⟨⟨by decide +kernel, by decide +kernel⟩, List.mem_of_getElem? (i := 772) (by decide +kernel), List.mem_of_getElem? (i := 1264) (by decide +kernel), List.mem_of_getElem? (i := 1265) (by decide +kernel)⟩
theorem lw_p100 : lw_okq (⟨"StatuteConsolidatorModel", "exchangeAll", "(Z)V"⟩, 57) := ⟨⟨by decide +kernel, by decide +kernel⟩, List.mem_of_getElem? (i := 772) (by decide +kernel), List.mem_of_getElem? (i := 1329) (by decide +kernel), List.mem_of_getElem? (i := 1330) (by decide +kernel)⟩
def lw_privs_7 : List (MethodName × Nat) := [(⟨"StatuteConsolidatorModel", "isKept", "(IZ)Z"⟩, 57), (⟨"StatuteConsolidatorModel", "referencesOf", "(I)I"⟩, 57), (⟨"StatuteConsolidatorModel", "isDangling", "(I)Z"⟩, 57), (⟨"StatuteConsolidatorModel", "reachConflict", "(II)I"⟩, 57), (⟨"StatuteConsolidatorModel", "exchangeAll", "(Z)V"⟩, 57)]
theorem lw_r7 : ∀ q ∈ lw_privs_7, lw_okq q := List.forall_mem_cons.mpr ⟨lw_p96, List.forall_mem_cons.mpr ⟨lw_p97, List.forall_mem_cons.mpr ⟨lw_p98, List.forall_mem_cons.mpr ⟨lw_p99, List.forall_mem_cons.mpr ⟨lw_p100, fun _ h => absurd h List.not_mem_nil⟩⟩⟩⟩⟩
def lw_privs : List (MethodName × Nat) := lw_privs_1 ++ (lw_privs_2 ++ (lw_privs_3 ++ (lw_privs_4 ++ (lw_privs_5 ++ (lw_privs_6 ++ (lw_privs_7))))))
def lw_tbl : List Cond := k2_sels lw_privs ++ tables_1
theorem lw_privs_ok : ∀ q ∈ lw_privs, lw_okq q := by
  show ∀ q ∈ lw_privs_1 ++ (lw_privs_2 ++ (lw_privs_3 ++ (lw_privs_4 ++ (lw_privs_5 ++ (lw_privs_6 ++ (lw_privs_7)))))), lw_okq q
  exact List.forall_mem_append.mpr ⟨lw_r1, List.forall_mem_append.mpr ⟨lw_r2, List.forall_mem_append.mpr ⟨lw_r3, List.forall_mem_append.mpr ⟨lw_r4, List.forall_mem_append.mpr ⟨lw_r5, List.forall_mem_append.mpr ⟨lw_r6, lw_r7⟩⟩⟩⟩⟩⟩
/-- the streams that the claim lets the run draw from -/
abbrev lw_cs : List Choice := [Jvm.Choice.named "NaN.bits"]
theorem lw_bits : nanBits ∈ lw_cs := by first | decide | exact List.mem_cons_self | simp [lw_cs, nanBits]
-- ===== end of PART A; then your names; then what follows =====
/-! THE CLAIM OUT OF ONE WALK OF THE LAW'S BODY. Your part is whole_start (and what it stands on); all else here is the same for every law, but numbers. -/
def R_law : String := "StatuteConsolidatorLaw"
def lw_P (b : Addr) (xs : List Int32) (args : Array Value) (s : State) : Prop := args = #[.ref b] ∧ s.IntsAt b xs ∧ xs.length ≤ 2048 ∧ (Jvm.Cond.and given_1 narrow_1).before args s = true
/-- what a walk over the start with the record d0 says of its end, said of the start itself -/
theorem lw_closed {s t : State} {o : Outcome} {d0 : Drawn} {L : List Loc} {k n : Nat} (hd0 : s.drawn.sameBut d0 lw_cs) (hv : ∃ v, o = .returned v) (hW : (s.setDrawn d0).WarmedH t.vm) (hs : (s.setDrawn d0).sameButNew ({ t with vm := s.vm } : State) L k n) : State.butDraws s t lw_cs (fun t1 => Framed s o t1 L k n) := by
  have h2 : t.drawn = d0 := congrArg State.drawn hs.1
  refine ⟨⟨hv, hW, State.sameButNew.setDrawn hs s.drawn⟩, ?_, by decide⟩
  rw [h2]
  exact hd0
def lw_Q (_ : Array Value) (s : State) (o : Outcome) (t : State) : Prop := o = .returned (some (.int 1)) ∧ State.butDraws s t lw_cs (fun t1 => Framed s o t1 [] 600000 7302250)
def lw_Z (below : List Frame) (a : Array Value) (s : State) : State → Prop := fun t => ∃ o, t.status = .running ∧ Ended t below o ∧ lw_Q a s o t
/-- the law's own end, with 1 on the stack, nothing written that was there before, its room as the claim has it; d0: the record of draws at this point (at the entry s.drawn: begin with 'refine W.base ?_' and 'have hd0 := Drawn.sameBut.refl s.drawn lw_cs') -/
theorem lw_ret {p : Program} {l : Launch} {e : Env} {s : State} {m : MethodId} {below : List Frame} {meth : Method} {c : Code} {b : Nat} {d0 : Drawn} (hd0 : s.drawn.sameBut d0 lw_cs) (hx : p.tables.exec = Jvm.exec) (hb : c.code = code) (hr : meth.sig.returnType = ret) (hlocks : meth.locks = false) {pc : Nat} {H : Heap} {ls : Array Slot} (hdg : decode code pc = .ok (.ireturn, 1)) : W p l e room_1 (s.setDrawn d0) m #[Value.ref b] below meth c H [] 600000 7302250 (lw_Z below #[Value.ref b] s) (F0 m pc ls [.int 1]) := by
  intro T hT X
  obtain ⟨fs, hret, hrun, hended, hW, hframe⟩ := X.leave (v := some (.int 1)) (hlocks := hlocks) (fun h => by rw [hr] at h; cases h)
  have hmeth' : T.vm.method? m = some meth := X.method'
  refine ⟨T.setFrames fs, ?_, .returned (some (.int 1)), hrun, hended, rfl, lw_closed hd0 ⟨_, rfl⟩ hW hframe⟩
  jvm_step X.here [X.here.top, hx, hb, hdg, hmeth', hr, ret, narrow_b1]
  (try refine ⟨rfl, ?_⟩); (try refine ⟨rfl, ?_⟩)
  first | (intro acts; rw [hret _ acts rfl rfl rfl]) | rw [hret _ _ rfl rfl rfl]
  exact Steps.refl _
/-- what holds at the law's entry: the machine, the code, the tables' words (any of lw_tbl by 'hts w (by decide +kernel)'), the script of L ints xs at the cell b, what the Statement gives of the start (any of its parts by flat_of_before) -/
def lw_At (p : Program) (s : State) (m : MethodId) (meth : Method) (c : Code) (b L : Nat) (xs : Nat → Int32) : Prop :=
  p.tables.exec = Jvm.exec ∧ c.code = code ∧ meth.sig.returnType = ret ∧ c.maxLocals = 4 ∧ s.vm.findClass R_law = some m.cls ∧ (∀ w ∈ lw_tbl, w.before #[Value.ref b] s = true) ∧ va_X b L xs s s.heap ∧ b < s.heap.size ∧ meth.locks = false ∧ (Jvm.Cond.and given_1 narrow_1).before #[Value.ref b] s = true
end
section
/-! names: classes and their fields -/
def zT_am : u_T := fun k => match k with
  | 0 => ("StatuteConsolidator$Amendments", "count", "I", false)
  | 1 => ("StatuteConsolidator$Amendments", "days", "[I", true)
  | 2 => ("StatuteConsolidator$Amendments", "sizes", "[I", true)
  | 3 => ("StatuteConsolidator$Amendments", "kinds", "[I", true)
  | 4 => ("StatuteConsolidator$Amendments", "paths", "[J", true)
  | 5 => ("StatuteConsolidator$Amendments", "goals", "[J", true)
  | _ => ("StatuteConsolidator$Amendments", "texts", "[I", true)
def zt_am : Nat → FieldType := fun k => match k with
  | 0 => .int
  | 1 => .array .int
  | 2 => .array .int
  | 3 => .array .int
  | 4 => .array .long
  | 5 => .array .long
  | _ => .array .int
def zT_inp : u_T := fun k => match k with
  | 0 => ("StatuteConsolidator$Input", "characters", "[I", true)
  | 1 => ("StatuteConsolidator$Input", "length", "I", false)
  | _ => ("StatuteConsolidator$Input", "position", "I", false)
def zt_inp : Nat → FieldType := fun k => match k with
  | 0 => .array .int
  | 1 => .int
  | _ => .int
def zT_pv : u_T := fun k => match k with
  | 0 => ("StatuteConsolidator$Provisions", "count", "I", false)
  | 1 => ("StatuteConsolidator$Provisions", "paths", "[J", true)
  | 2 => ("StatuteConsolidator$Provisions", "texts", "[I", true)
  | 3 => ("StatuteConsolidator$Provisions", "repealed", "[Z", true)
  | 4 => ("StatuteConsolidator$Provisions", "origins", "[I", true)
  | _ => ("StatuteConsolidator$Provisions", "creators", "[I", true)
def zt_pv : Nat → FieldType := fun k => match k with
  | 0 => .int
  | 1 => .array .long
  | 2 => .array .int
  | 3 => .array .boolean
  | 4 => .array .int
  | _ => .array .int
def zT_sh : u_T := fun k => match k with
  | 0 => ("StatuteConsolidator$Shelves", "filled", "[Z", true)
  | 1 => ("StatuteConsolidator$Shelves", "types", "[I", true)
  | 2 => ("StatuteConsolidator$Shelves", "lengths", "[I", true)
  | _ => ("StatuteConsolidator$Shelves", "elements", "[[I", true)
def zt_sh : Nat → FieldType := fun k => match k with
  | 0 => .array .boolean
  | 1 => .array .int
  | 2 => .array .int
  | _ => .array (.array .int)
def zT_sta : u_T := fun k => match k with
  | 0 => ("StatuteConsolidator$Statute", "original", "LStatuteConsolidator$Provisions;", true)
  | 1 => ("StatuteConsolidator$Statute", "referenceCounts", "[I", true)
  | 2 => ("StatuteConsolidator$Statute", "targets", "[[I", true)
  | _ => ("StatuteConsolidator$Statute", "amendments", "LStatuteConsolidator$Amendments;", true)
def zt_sta : Nat → FieldType := fun k => match k with
  | 0 => .object "StatuteConsolidator$Provisions"
  | 1 => .array .int
  | 2 => .array (.array .int)
  | _ => .object "StatuteConsolidator$Amendments"
def zT_ver : u_T := fun k => match k with
  | 0 => ("StatuteConsolidator$Version", "provisions", "LStatuteConsolidator$Provisions;", true)
  | 1 => ("StatuteConsolidator$Version", "conflicts", "I", false)
  | 2 => ("StatuteConsolidator$Version", "conflictAmendments", "[I", true)
  | 3 => ("StatuteConsolidator$Version", "conflictInstructions", "[I", true)
  | _ => ("StatuteConsolidator$Version", "conflictReasons", "[I", true)
def zt_ver : Nat → FieldType := fun k => match k with
  | 0 => .object "StatuteConsolidator$Provisions"
  | 1 => .int
  | 2 => .array .int
  | 3 => .array .int
  | _ => .array .int
def zT_sc : u_T := fun k => match k with
  | 0 => ("StatuteConsolidator", "statute", "LStatuteConsolidator$Statute;", true)
  | 1 => ("StatuteConsolidator", "snapshot", "LStatuteConsolidator$Statute;", true)
  | 2 => ("StatuteConsolidator", "snapshotSaved", "Z", false)
  | 3 => ("StatuteConsolidator", "input", "LStatuteConsolidator$Input;", true)
  | 4 => ("StatuteConsolidator", "shelves", "LStatuteConsolidator$Shelves;", true)
  | 5 => ("StatuteConsolidator", "version", "LStatuteConsolidator$Version;", true)
  | _ => ("StatuteConsolidator", "otherVersion", "LStatuteConsolidator$Version;", true)
def zt_sc : Nat → FieldType := fun k => match k with
  | 0 => .object "StatuteConsolidator$Statute"
  | 1 => .object "StatuteConsolidator$Statute"
  | 2 => .boolean
  | 3 => .object "StatuteConsolidator$Input"
  | 4 => .object "StatuteConsolidator$Shelves"
  | 5 => .object "StatuteConsolidator$Version"
  | _ => .object "StatuteConsolidator$Version"
def zT_mo : u_T := fun k => match k with
  | 0 => ("StatuteConsolidatorModel", "parent", "[I", true)
  | 1 => ("StatuteConsolidatorModel", "label", "[I", true)
  | 2 => ("StatuteConsolidatorModel", "text", "[I", true)
  | 3 => ("StatuteConsolidatorModel", "referenceCount", "[I", true)
  | 4 => ("StatuteConsolidatorModel", "references", "[I", true)
  | 5 => ("StatuteConsolidatorModel", "originals", "I", false)
  | 6 => ("StatuteConsolidatorModel", "amendmentDay", "[I", true)
  | 7 => ("StatuteConsolidatorModel", "instructionCount", "[I", true)
  | 8 => ("StatuteConsolidatorModel", "kind", "[I", true)
  | 9 => ("StatuteConsolidatorModel", "number", "[I", true)
  | 10 => ("StatuteConsolidatorModel", "paths", "[I", true)
  | 11 => ("StatuteConsolidatorModel", "amendments", "I", false)
  | 12 => ("StatuteConsolidatorModel", "nodeParent", "[I", true)
  | 13 => ("StatuteConsolidatorModel", "nodeLevel", "[I", true)
  | 14 => ("StatuteConsolidatorModel", "nodeLabel", "[I", true)
  | 15 => ("StatuteConsolidatorModel", "nodeText", "[I", true)
  | 16 => ("StatuteConsolidatorModel", "nodeOrigin", "[I", true)
  | 17 => ("StatuteConsolidatorModel", "nodeCreator", "[I", true)
  | 18 => ("StatuteConsolidatorModel", "isRepealed", "[Z", true)
  | 19 => ("StatuteConsolidatorModel", "isPresent", "[Z", true)
  | 20 => ("StatuteConsolidatorModel", "nodes", "I", false)
  | 21 => ("StatuteConsolidatorModel", "present", "I", false)
  | 22 => ("StatuteConsolidatorModel", "order", "[I", true)
  | 23 => ("StatuteConsolidatorModel", "conflictAmendment", "[I", true)
  | 24 => ("StatuteConsolidatorModel", "conflictInstruction", "[I", true)
  | 25 => ("StatuteConsolidatorModel", "conflictReason", "[I", true)
  | 26 => ("StatuteConsolidatorModel", "conflicts", "I", false)
  | 27 => ("StatuteConsolidatorModel", "input", "[I", true)
  | 28 => ("StatuteConsolidatorModel", "length", "I", false)
  | 29 => ("StatuteConsolidatorModel", "placed", "I", false)
  | 30 => ("StatuteConsolidatorModel", "at", "I", false)
  | 31 => ("StatuteConsolidatorModel", "isWrong", "Z", false)
  | 32 => ("StatuteConsolidatorModel", "renumbered", "[I", true)
  | 33 => ("StatuteConsolidatorModel", "written", "[I", true)
  | 34 => ("StatuteConsolidatorModel", "writtenLength", "I", false)
  | 35 => ("StatuteConsolidatorModel", "sought", "[I", true)
  | 36 => ("StatuteConsolidatorModel", "keptLabels", "[I", true)
  | 37 => ("StatuteConsolidatorModel", "keptTexts", "[I", true)
  | 38 => ("StatuteConsolidatorModel", "keptOrigins", "[I", true)
  | 39 => ("StatuteConsolidatorModel", "keptRepealed", "[Z", true)
  | 40 => ("StatuteConsolidatorModel", "keptCount", "I", false)
  | 41 => ("StatuteConsolidatorModel", "shelfType", "[I", true)
  | 42 => ("StatuteConsolidatorModel", "shelfLength", "[I", true)
  | 43 => ("StatuteConsolidatorModel", "elements", "[I", true)
  | 44 => ("StatuteConsolidatorModel", "savedParent", "[I", true)
  | 45 => ("StatuteConsolidatorModel", "savedLabel", "[I", true)
  | 46 => ("StatuteConsolidatorModel", "savedText", "[I", true)
  | 47 => ("StatuteConsolidatorModel", "savedReferenceCount", "[I", true)
  | 48 => ("StatuteConsolidatorModel", "savedReferences", "[I", true)
  | 49 => ("StatuteConsolidatorModel", "savedDay", "[I", true)
  | 50 => ("StatuteConsolidatorModel", "savedInstructionCount", "[I", true)
  | 51 => ("StatuteConsolidatorModel", "savedKind", "[I", true)
  | 52 => ("StatuteConsolidatorModel", "savedNumber", "[I", true)
  | 53 => ("StatuteConsolidatorModel", "savedPaths", "[I", true)
  | 54 => ("StatuteConsolidatorModel", "savedOriginals", "I", false)
  | 55 => ("StatuteConsolidatorModel", "savedAmendments", "I", false)
  | _ => ("StatuteConsolidatorModel", "hasSnapshot", "Z", false)
def zt_mo : Nat → FieldType := fun k => match k with
  | 0 => .array .int
  | 1 => .array .int
  | 2 => .array .int
  | 3 => .array .int
  | 4 => .array .int
  | 5 => .int
  | 6 => .array .int
  | 7 => .array .int
  | 8 => .array .int
  | 9 => .array .int
  | 10 => .array .int
  | 11 => .int
  | 12 => .array .int
  | 13 => .array .int
  | 14 => .array .int
  | 15 => .array .int
  | 16 => .array .int
  | 17 => .array .int
  | 18 => .array .boolean
  | 19 => .array .boolean
  | 20 => .int
  | 21 => .int
  | 22 => .array .int
  | 23 => .array .int
  | 24 => .array .int
  | 25 => .array .int
  | 26 => .int
  | 27 => .array .int
  | 28 => .int
  | 29 => .int
  | 30 => .int
  | 31 => .boolean
  | 32 => .array .int
  | 33 => .array .int
  | 34 => .int
  | 35 => .array .int
  | 36 => .array .int
  | 37 => .array .int
  | 38 => .array .int
  | 39 => .array .boolean
  | 40 => .int
  | 41 => .array .int
  | 42 => .array .int
  | 43 => .array .int
  | 44 => .array .int
  | 45 => .array .int
  | 46 => .array .int
  | 47 => .array .int
  | 48 => .array .int
  | 49 => .array .int
  | 50 => .array .int
  | 51 => .array .int
  | 52 => .array .int
  | 53 => .array .int
  | 54 => .int
  | 55 => .int
  | _ => .boolean
def zCl : List vw_C := [("StatuteConsolidator$Amendments", zT_am, 7), ("StatuteConsolidator$Input", zT_inp, 3), ("StatuteConsolidator$Provisions", zT_pv, 6), ("StatuteConsolidator$Shelves", zT_sh, 4), ("StatuteConsolidator$Statute", zT_sta, 4), ("StatuteConsolidator$Version", zT_ver, 5), ("StatuteConsolidator", zT_sc, 7), ("StatuteConsolidatorModel", zT_mo, 57)]
def zTt : Nat → Nat → FieldType := fun c => match c with
  | 0 => zt_am
  | 1 => zt_inp
  | 2 => zt_pv
  | 3 => zt_sh
  | 4 => zt_sta
  | 5 => zt_ver
  | 6 => zt_sc
  | _ => zt_mo
end
section
/-! OF MY OWN, so that nothing of the library's shelf of single laws is needed: a number compared with itself; the word on arrays of arrays; an array of arrays of ints is made -/
section ZOwn
theorem zo_nan32 (r : UInt32) : FP.Core.decode FP.Core.b32 r.toNat = .nan ↔ isNaN32 r = true := by
  have h1 : (r &&& 0x7fffffff).toNat = r.toNat % 2147483648 := by
    rw [UInt32.toNat_and]
    exact Nat.and_two_pow_sub_one_eq_mod r.toNat 31
  have h2 : isNaN32 r = true ↔ 2139095040 < r.toNat % 2147483648 := by
    unfold isNaN32
    rw [decide_eq_true_iff, ← h1]
    exact UInt32.lt_iff_toNat_lt
  have hE : FP.Core.fieldE FP.Core.b32 r.toNat = r.toNat / 8388608 % 256 := rfl
  have hT : FP.Core.fieldT FP.Core.b32 r.toNat = r.toNat % 8388608 := rfl
  have hX : FP.Core.b32.exps - 1 = 255 := rfl
  rw [h2]
  unfold FP.Core.decode
  rw [hE, hT, hX]
  by_cases a : r.toNat / 8388608 % 256 = 255
  · rw [if_pos a]
    by_cases b : r.toNat % 8388608 = 0
    · rw [if_pos b]
      exact ⟨fun h => (by cases h), fun h => (by omega)⟩
    · rw [if_neg b]
      exact ⟨fun _ => by omega, fun _ => rfl⟩
  · rw [if_neg a]
    refine ⟨fun h => ?_, fun h => by omega⟩
    split at h <;> cases h
theorem zo_nan64 (r : UInt64) : FP.Core.decode FP.Core.b64 r.toNat = .nan ↔ isNaN64 r = true := by
  have h1 : (r &&& 0x7fffffffffffffff).toNat = r.toNat % 9223372036854775808 := by
    rw [UInt64.toNat_and]
    exact Nat.and_two_pow_sub_one_eq_mod r.toNat 63
  have h2 : isNaN64 r = true ↔ 9218868437227405312 < r.toNat % 9223372036854775808 := by
    unfold isNaN64
    rw [decide_eq_true_iff, ← h1]
    exact UInt64.lt_iff_toNat_lt
  have hE : FP.Core.fieldE FP.Core.b64 r.toNat = r.toNat / 4503599627370496 % 2048 := rfl
  have hT : FP.Core.fieldT FP.Core.b64 r.toNat = r.toNat % 4503599627370496 := rfl
  have hX : FP.Core.b64.exps - 1 = 2047 := rfl
  rw [h2]
  unfold FP.Core.decode
  rw [hE, hT, hX]
  by_cases a : r.toNat / 4503599627370496 % 2048 = 2047
  · rw [if_pos a]
    by_cases b : r.toNat % 4503599627370496 = 0
    · rw [if_pos b]
      exact ⟨fun h => (by cases h), fun h => (by omega)⟩
    · rw [if_neg b]
      exact ⟨fun _ => by omega, fun _ => rfl⟩
  · rw [if_neg a]
    refine ⟨fun h => ?_, fun h => by omega⟩
    split at h <;> cases h
theorem zo_cmp (a : Int) : compare a a = .eq := by
  show compareOfLessAndEq a a = .eq
  unfold compareOfLessAndEq
  rw [if_neg (Int.lt_irrefl a), if_pos rfl]
theorem zo_self : ∀ D : FP.Core.Datum, FP.Core.order D D = some .eq ∨ (D = .nan ∧ FP.Core.order D D = none)
  | .nan => Or.inr ⟨rfl, rfl⟩
  | .inf s => Or.inl (congrArg some (zo_cmp _))
  | .fin s c q => Or.inl (congrArg some (zo_cmp _))
theorem nan_f {r : UInt32} : Op.cmpValue (FP.fcmp r r) .l = 0 ↔ isNaN32 r = false := by
  have h := zo_nan32 r
  have e : FP.fcmp r r = FP.Core.order (FP.Core.decode FP.Core.b32 r.toNat) (FP.Core.decode FP.Core.b32 r.toNat) := rfl
  rcases zo_self (FP.Core.decode FP.Core.b32 r.toNat) with a | ⟨b, a⟩
  · rw [e, a]
    refine ⟨fun _ => ?_, fun _ => rfl⟩
    cases hb : isNaN32 r with
    | false => rfl
    | true => rw [h.mpr hb] at a; cases a
  · rw [e, a, h.mp b]
    exact ⟨fun z => absurd z (by decide), fun z => by cases z⟩
theorem nan_d {r : UInt64} : Op.cmpValue (FP.dcmp r r) .l = 0 ↔ isNaN64 r = false := by
  have h := zo_nan64 r
  have e : FP.dcmp r r = FP.Core.order (FP.Core.decode FP.Core.b64 r.toNat) (FP.Core.decode FP.Core.b64 r.toNat) := rfl
  rcases zo_self (FP.Core.decode FP.Core.b64 r.toNat) with a | ⟨b, a⟩
  · rw [e, a]
    refine ⟨fun _ => ?_, fun _ => rfl⟩
    cases hb : isNaN64 r with
    | false => rfl
    | true => rw [h.mpr hb] at a; cases a
  · rw [e, a, h.mp b]
    exact ⟨fun z => absurd z (by decide), fun z => by cases z⟩
/-- what the word on arrays of int arrays says of the tables -/
def zoT (vm : Vm) : Prop := ∃ (cB cA : ClassId) (kA : Class), vm.findClass (FieldType.array .int).toString = some cB ∧ vm.classes[cA]? = some kA ∧ kA.kind = .array cB (.array .int) ∧ vm.findClass ("[" ++ (FieldType.array .int).toString) = some cA
theorem zoT_of {args : Array Value} {s : State} (h : (Cond.arrayOver (.array .int)).before args s = true) : zoT s.vm := by
  unfold Cond.before at h
  simp only [Cond.holds, Cond.value, beq_iff_eq, Option.bind_eq_some_iff, Option.map_eq_some_iff] at h
  obtain ⟨cB, hB, cA, hi, kA, hA, hk⟩ := h
  obtain ⟨hl, hp, -⟩ := Array.findIdx?_eq_some_iff_getElem.mp hi
  have hg : s.vm.classes[cA] = kA := (Array.getElem?_eq_some_iff.mp hA).2
  rw [hg] at hp
  refine ⟨cB, cA, kA, hB, hA, ?_, ?_⟩
  · cases hq : kA.kind with
    | array x ty =>
      rw [hq] at hk hp
      simp only [Bool.and_eq_true, decide_eq_true_eq] at hk
      simp only [beq_iff_eq] at hp
      rw [hp, hk.1]
    | _ => rw [hq] at hk; cases hk
  · cases hq : kA.kind with
    | array x ty =>
      rw [hq] at hk
      simp only [Bool.and_eq_true, decide_eq_true_eq] at hk
      exact hk.2
    | _ => rw [hq] at hk; cases hk
theorem zoT.to {vm vm' : Vm} (ha : vm.Alike vm') (h : zoT vm) : zoT vm' := by
  obtain ⟨cB, cA, kA, h1, h2, h3, h4⟩ := h
  obtain ⟨k', hk', he⟩ := ha.2.2 _ _ h2
  exact ⟨cB, cA, k', by rw [ha.findClass]; exact h1, hk', by rw [he]; exact h3, by rw [ha.findClass]; exact h4⟩
/-- the outer array with its first i places filled; the rows stand right behind it -/
def zoO (cA : ClassId) (N h i : Nat) : Cell := arrV cA N (fun j => if j < i then .ref (h + 1 + j) else .null)
/-- the state with the outer array and i rows of K ints -/
def zoF (cA cB : ClassId) (N K h : Nat) (U : State) : Nat → State
  | 0 => U.pushCell (zoO cA N h 0)
  | i + 1 => ((zoF cA cB N K h U i).pushCell (arrV cB K (fun _ => .int 0))).setCell h (zoO cA N h (i + 1))
theorem zoO_size (cA : ClassId) (N h i : Nat) : (zoO cA N h i).slots.size = N := by simp [zoO, arrV]
theorem zoO_step (cA : ClassId) (N h i : Nat) : (zoO cA N h i).setSlot i (.ref (h + 1 + i)) = zoO cA N h (i + 1) := by
  unfold zoO
  rw [arrV_store]
  refine congrArg (arrV cA N) (funext fun j => ?_)
  show (if j = i then Value.ref (h + 1 + i) else if j < i then .ref (h + 1 + j) else .null) = if j < i + 1 then .ref (h + 1 + j) else .null
  by_cases e : j = i
  · subst e
    rw [if_pos rfl, if_pos (Nat.lt_succ_self j)]
  · rw [if_neg e]
    by_cases q : j < i
    · rw [if_pos q, if_pos (Nat.lt_succ_of_lt q)]
    · rw [if_neg q, if_neg (by omega)]
theorem zoO_new (cA : ClassId) (N h : Nat) : ({ cls := cA, slots := Array.replicate N .null, vm := .none } : Cell) = zoO cA N h 0 := by
  rw [arrV_new]
  refine congrArg (arrV cA N) (funext fun j => ?_)
  rw [if_neg (Nat.not_lt_zero j)]
theorem zoF_facts (cA cB : ClassId) (N K : Nat) (U : State) : ∀ i : Nat, (zoF cA cB N K U.heap.size U i).heap.size = U.heap.size + 1 + i ∧ (zoF cA cB N K U.heap.size U i).heap[U.heap.size]? = some (zoO cA N U.heap.size i) ∧
    (∀ x : Nat, x < U.heap.size → (zoF cA cB N K U.heap.size U i).heap[x]? = U.heap[x]?) ∧ (∀ j : Nat, j < i → (zoF cA cB N K U.heap.size U i).heap[U.heap.size + 1 + j]? = some (arrV cB K (fun _ => .int 0))) ∧
    (zoF cA cB N K U.heap.size U i).slotsUsed = U.slotsUsed + N + i * K
  | 0 => by
    refine ⟨?_, ?_, fun x hx => ?_, fun j hj => absurd hj (Nat.not_lt_zero j), ?_⟩
    · show (U.heap.push _).size = _
      rw [Array.size_push]
    · show (U.heap.push _)[U.heap.size]? = _
      simp
    · show (U.heap.push _)[x]? = _
      rw [Array.getElem?_push, if_neg (by omega)]
    · show U.slotsUsed + (zoO cA N U.heap.size 0).slots.size = _
      rw [zoO_size]
      omega
  | i + 1 => by
    obtain ⟨h1, h2, h3, h4, h5⟩ := zoF_facts cA cB N K U i
    have hs : ∀ x : Nat, (zoF cA cB N K U.heap.size U (i + 1)).heap[x]? = if U.heap.size = x then some (zoO cA N U.heap.size (i + 1)) else if x = U.heap.size + 1 + i then some (arrV cB K (fun _ => .int 0)) else (zoF cA cB N K U.heap.size U i).heap[x]? := fun x => by
      show (((zoF cA cB N K U.heap.size U i).heap.push _).setIfInBounds U.heap.size _)[x]? = _
      rw [Array.getElem?_setIfInBounds, Array.size_push, h1, Array.getElem?_push, h1]
      by_cases e : U.heap.size = x
      · rw [if_pos e, if_pos e, if_pos (by omega)]
      · rw [if_neg e, if_neg e]
    refine ⟨?_, ?_, fun x hx => ?_, fun j hj => ?_, ?_⟩
    · show (((zoF cA cB N K U.heap.size U i).heap.push _).setIfInBounds U.heap.size _).size = _
      rw [Array.size_setIfInBounds, Array.size_push, h1]
      omega
    · rw [hs, if_pos rfl]
    · rw [hs, if_neg (by omega), if_neg (by omega)]
      exact h3 x hx
    · rw [hs, if_neg (by omega)]
      by_cases e : j = i
      · subst e
        rw [if_pos rfl]
      · rw [if_neg (by omega)]
        exact h4 j (by omega)
    · show (zoF cA cB N K U.heap.size U i).slotsUsed + (arrV cB K (fun _ => Value.int 0)).slots.size = _
      rw [h5, show (arrV cB K (fun _ => Value.int 0)).slots.size = K by simp [arrV], Nat.succ_mul]
      omega
theorem zoF_top (cA cB : ClassId) (N K h : Nat) (U : State) (f : JFrame) : ∀ i : Nat, zoF cA cB N K h (U.setTop f) i = (zoF cA cB N K h U i).setTop f
  | 0 => rfl
  | i + 1 => by
    show ((zoF cA cB N K h (U.setTop f) i).pushCell _).setCell h _ = _
    rw [zoF_top cA cB N K h U f i]
    rfl
theorem zoF_vm (cA cB : ClassId) (N K h : Nat) (U : State) : ∀ i : Nat, (zoF cA cB N K h U i).vm = U.vm ∧ (zoF cA cB N K h U i).topJava? = U.topJava?
  | 0 => ⟨rfl, rfl⟩
  | i + 1 => zoF_vm cA cB N K h U i
section
variable {p : Program} {l : Launch} {e : Env} {R : Room} {s : State} {m : MethodId} {args : Array Value} {below : List Frame} {meth : Method} {c : Code} {T : State} {locs : List Loc} {cells slots : Nat}
theorem zoF_stand (X : Stand p l e R s m args below meth c T locs cells slots) (cA cB : ClassId) (N K : Nat) : ∀ i : Nat, ∃ locs' : List Loc, (∀ q ∈ locs', q ∈ locs ∨ q.base = T.heap.size) ∧ Stand p l e R s m args below meth c (zoF cA cB N K T.heap.size T i) locs' (cells + 1 + i) (slots + N + i * K)
  | 0 => by
    refine ⟨locs, fun q hq => Or.inl hq, ?_⟩
    have h := X.pushed (zoO cA N T.heap.size 0)
    rw [zoO_size] at h
    rw [Nat.zero_mul]
    exact h
  | i + 1 => by
    obtain ⟨locs', hl, h⟩ := zoF_stand X cA cB N K i
    obtain ⟨f1, f2, -, -, -⟩ := zoF_facts cA cB N K T i
    have h1 := h.pushed (arrV cB K (fun _ => .int 0))
    rw [show (arrV cB K (fun _ => Value.int 0)).slots.size = K by simp [arrV]] at h1
    have hc : ((zoF cA cB N K T.heap.size T i).pushCell (arrV cB K (fun _ => .int 0))).heap[T.heap.size]? = some (zoO cA N T.heap.size i) := by
      show ((zoF cA cB N K T.heap.size T i).heap.push _)[T.heap.size]? = _
      rw [Array.getElem?_push, if_neg (by omega)]
      exact f2
    have h2 := h1.stored hc i (.ref (T.heap.size + 1 + i))
    rw [zoO_step] at h2
    refine ⟨locs' ++ [⟨T.heap.size, i⟩], fun q hq => ?_, ?_⟩
    rotate_left
    · rw [show cells + 1 + (i + 1) = cells + 1 + i + 1 by omega, show slots + N + (i + 1) * K = slots + N + i * K + K by rw [Nat.succ_mul]; omega]
      exact h2
    · rcases List.mem_append.mp hq with hq | hq
      · exact hl q hq
      · rw [List.mem_singleton] at hq
        subst hq
        exact Or.inr rfl
end
section
variable {E : CtlPost} {e : Env} {d : Bool} {acts : List Action} {s : State}
/-- a row -/
theorem zo_row {cB x : ClassId} {kB : Class} {k : Int32} {Q : Addr → Pre} (hkB : s.vm.classes[cB]? = some kB) (hB : kB.kind = .array x .int) (hk : ¬ k < 0) (hK : k.toNatClampNeg ≤ 1000) (hl : e.platform.arrayLengthLimit = 2147483645) (hm : e.platform.maxHeapBytes = 536870912)
    (hc : s.heap.size < e.platform.maxCells) (hs : s.slotsUsed + k.toNatClampNeg ≤ e.platform.maxSlots) (hq : ∀ acts', Q s.heap.size d acts' (s.pushCell (arrV cB k.toNatClampNeg (fun _ => .int 0)))) : wp (multianewarray.make cB [k]) Q E e d acts s := by
  unfold multianewarray.make
  simp only [wp_bind', W.ite, hk, if_false, wp_pure', W.theClass, hkB, Option.some.injEq, exists_eq_left', hB]
  refine W.newArray_of hkB hB (by rw [hl]; omega) (by rw [hm]; show ¬ k.toNatClampNeg * 4 > 536870912; omega) hc hs rfl (fun acts' => ?_)
  have h := hq acts'
  rw [← arrV_new] at h
  exact h
/-- the loop over the rows, from the i-th on -/
theorem zo_rows {cA cB x : ClassId} {kA kB : Class} {k : Int32} {N : Nat} {U : State} (hkA : U.vm.classes[cA]? = some kA) (hA : kA.kind = .array cB (.array .int)) (hkB : U.vm.classes[cB]? = some kB) (hB : kB.kind = .array x .int) (hk : ¬ k < 0) (hK : k.toNatClampNeg ≤ 1000) (hl : e.platform.arrayLengthLimit = 2147483645) (hm : e.platform.maxHeapBytes = 536870912)
    (hc : U.heap.size + 1 + N ≤ e.platform.maxCells) (hs : U.slotsUsed + N + N * k.toNatClampNeg ≤ e.platform.maxSlots) {Q : PUnit → Pre} (hq : ∀ d' acts', Q PUnit.unit d' acts' (zoF cA cB N k.toNatClampNeg U.heap.size U N)) :
    ∀ (n i : Nat) (d : Bool) (acts : List Action), i + n = N → wp (forIn (List.range' i n) PUnit.unit (fun j _ => do
      let a ← multianewarray.make cB [k]
      writeLoc U.heap.size j (.ref a)
      Pure.pure (ForInStep.yield PUnit.unit))) Q E e d acts (zoF cA cB N k.toNatClampNeg U.heap.size U i)
  | 0, i, d, acts, h => by
    rw [show i = N by omega]
    simp only [List.range'_zero, List.forIn_nil, wp_pure']
    exact hq d acts
  | n + 1, i, d, acts, h => by
    obtain ⟨f1, f2, -, -, f5⟩ := zoF_facts cA cB N k.toNatClampNeg U i
    obtain ⟨v1, -⟩ := zoF_vm cA cB N k.toNatClampNeg U.heap.size U i
    have hmul : i * k.toNatClampNeg + k.toNatClampNeg ≤ N * k.toNatClampNeg := by
      rw [← Nat.succ_mul]
      exact Nat.mul_le_mul_right _ (by omega)
    rw [List.range'_succ]
    simp only [List.forIn_cons, wp_bind']
    refine zo_row (by rw [v1]; exact hkB) hB hk hK hl hm (by omega) (by omega) (fun acts1 => ?_)
    have hcell : ((zoF cA cB N k.toNatClampNeg U.heap.size U i).pushCell (arrV cB k.toNatClampNeg (fun _ => .int 0))).heap[U.heap.size]? = some (zoO cA N U.heap.size i) := by
      show ((zoF cA cB N k.toNatClampNeg U.heap.size U i).heap.push _)[U.heap.size]? = _
      rw [Array.getElem?_push, if_neg (by omega)]
      exact f2
    simp only [wp_bind', W.writeLoc, wp_pure']
    refine ⟨zoO cA N U.heap.size i, hcell, (by intro z; cases z), (by rw [zoO_size]; omega), ?_, ?_⟩
    · have hv : ((zoF cA cB N k.toNatClampNeg U.heap.size U i).pushCell (arrV cB k.toNatClampNeg (fun _ => .int 0))).vm = U.vm := v1
      have hty : ((zoF cA cB N k.toNatClampNeg U.heap.size U i).pushCell (arrV cB k.toNatClampNeg (fun _ => .int 0))).slotType? cA .none i = some (.array .int) := by
        unfold State.slotType?
        rw [hv, hkA]
        simp [hA]
      show State.fitsSlot _ cA .none i _ = true
      unfold State.fitsSlot
      rw [hty]
      rfl
    · rw [f1, zoO_step]
      exact zo_rows hkA hA hkB hB hk hK hl hm hc hs hq n (i + 1) _ _ (by omega)
theorem zo_make {cA cB x : ClassId} {kA kB : Class} {n k : Int32} (hkA : s.vm.classes[cA]? = some kA) (hA : kA.kind = .array cB (.array .int)) (hkB : s.vm.classes[cB]? = some kB) (hB : kB.kind = .array x .int) (hn : ¬ n < 0) (hN : n.toNatClampNeg ≤ 1000) (hk : ¬ k < 0) (hK : k.toNatClampNeg ≤ 1000) (hl : e.platform.arrayLengthLimit = 2147483645) (hm : e.platform.maxHeapBytes = 536870912)
    (hc : s.heap.size + 1 + n.toNatClampNeg ≤ e.platform.maxCells) (hs : s.slotsUsed + n.toNatClampNeg + n.toNatClampNeg * k.toNatClampNeg ≤ e.platform.maxSlots) {Q : Addr → Pre} (hq : ∀ d' acts', Q s.heap.size d' acts' (zoF cA cB n.toNatClampNeg k.toNatClampNeg s.heap.size s n.toNatClampNeg)) :
    wp (multianewarray.make cA [n, k]) Q E e d acts s := by
  unfold multianewarray.make
  simp only [wp_bind', W.ite, hn, if_false, wp_pure', W.theClass, hkA, Option.some.injEq, exists_eq_left', hA]
  refine W.newArray_of hkA hA (by rw [hl]; omega) (by rw [hm]; show ¬ n.toNatClampNeg * 4 > 536870912; omega) (by omega) (by omega) rfl (fun acts' => ?_)
  have hf : ([k].find? (fun z => decide (z < 0))) = none := by simp [hk]
  rw [zoO_new cA n.toNatClampNeg s.heap.size, hf, ite_self, wp_bind', Std.Legacy.Range.forIn_eq_forIn_range', show ([:n.toNatClampNeg] : Std.Legacy.Range).size = n.toNatClampNeg by simp [Std.Legacy.Range.size]]
  exact zo_rows hkA hA hkB hB hk hK hl hm hc hs (fun d' acts' => hq d' acts') n.toNatClampNeg 0 d acts' (Nat.zero_add _)
theorem zo_sem {f : JFrame} {idx : Nat} {rest : List Value} {cA cB x : ClassId} {kA kB : Class} {n k : Int32} (ht : s.topJava?.isSome) (hr : s.vm.classReady f.method.cls idx cA) (hst : f.stack = .int k :: .int n :: rest)
    (hkA : s.vm.classes[cA]? = some kA) (hA : kA.kind = .array cB (.array .int)) (hkB : s.vm.classes[cB]? = some kB) (hB : kB.kind = .array x .int) (hn : ¬ n < 0) (hN : n.toNatClampNeg ≤ 1000) (hk : ¬ k < 0) (hK : k.toNatClampNeg ≤ 1000) (hl : e.platform.arrayLengthLimit = 2147483645) (hm : e.platform.maxHeapBytes = 536870912)
    (hc : s.heap.size + 1 + n.toNatClampNeg ≤ e.platform.maxCells) (hs : s.slotsUsed + n.toNatClampNeg + n.toNatClampNeg * k.toNatClampNeg ≤ e.platform.maxSlots) {Q : Unit → Pre} (hq : ∀ d' acts', Q () d' acts' ((zoF cA cB n.toNatClampNeg k.toNatClampNeg s.heap.size s n.toNatClampNeg).setTop { f with stack := .ref s.heap.size :: rest })) :
    wp (multianewarray.sem idx 2) Q E e d acts (s.setTop f) := by
  have hp : f.stack = [Value.int n, Value.int k].reverse ++ rest := hst
  unfold multianewarray.sem
  rw [wp_bind', W.resolveClassAt_ready (State.method?_setTop f ht) hr, wp_bind', show Jvm.popN 2 = Jvm.popN [Value.int n, Value.int k].length from rfl, popN_top ht hp]
  simp only [List.mapM_cons, List.mapM_nil, wp_bind', wp_pure']
  refine zo_make (s := s.setTop { f with stack := rest }) hkA hA hkB hB hn hN hk hK hl hm hc hs (fun d' acts' => ?_)
  rw [zoF_top]
  have htop : (zoF cA cB n.toNatClampNeg k.toNatClampNeg s.heap.size s n.toNatClampNeg).topJava?.isSome := by
    rw [(zoF_vm cA cB n.toNatClampNeg k.toNatClampNeg s.heap.size s n.toNatClampNeg).2]
    exact ht
  simp only [wp_bind', W.mark, W.pushRef, State.heap_setTop, State.topJava?_setTop' _ htop, Option.some.injEq, exists_eq_left', State.setTop_setTop]
  exact hq _ _
end
section
variable {p : Program} {l : Launch} {e : Env} {R : Room} {s : State} {m : MethodId} {args : Array Value} {below : List Frame} {meth : Method} {c : Code} {T : State} {locs : List Loc} {cells slots : Nat}
/-- new int[n][k], over the machine -/
theorem zo_multi (X : Stand p l e R s m args below meth c T locs cells slots) (hx : p.tables.exec = Jvm.exec) {own : String} {idx : Nat} (hown : s.vm.findClass own = some m.cls) (hw : (Cond.classLink own idx ("[" ++ (FieldType.array .int).toString)).before args s = true) (ho : zoT s.vm) (hi : (Cond.arrayClass .int).before args s = true)
    {g : JFrame} (hg : g.method = m) (hd : decode c.code g.pc = .ok (.multianewarray idx 2, 4)) {n k : Int32} {rest : List Value} (hst : g.stack = .int k :: .int n :: rest) (hn : ¬ n < 0) (hN : n.toNatClampNeg ≤ 1000) (hk : ¬ k < 0) (hK : k.toNatClampNeg ≤ 1000)
    (hce : cells + (1 + n.toNatClampNeg) ≤ R.cells) (hsl : slots + (n.toNatClampNeg + n.toNatClampNeg * k.toNatClampNeg) ≤ R.slots) :
    ∃ (vm₁ : Vm) (cA cB : ClassId) (locs' : List Loc), s.vm.findClass ("[" ++ (FieldType.array .int).toString) = some cA ∧ s.vm.findClass (FieldType.array .int).toString = some cB ∧ (∀ q ∈ locs', q ∈ locs ∨ q.base = T.heap.size) ∧
      Stand p l e R s m args below meth c (zoF cA cB n.toNatClampNeg k.toNatClampNeg T.heap.size (T.setVm vm₁) n.toNatClampNeg) locs' (cells + 1 + n.toNatClampNeg) (slots + n.toNatClampNeg + n.toNatClampNeg * k.toNatClampNeg) ∧
      ∀ t, Steps p.tables e below ((zoF cA cB n.toNatClampNeg k.toNatClampNeg T.heap.size (T.setVm vm₁) n.toNatClampNeg).setTop { g with pc := g.pc + 4, stack := .ref T.heap.size :: rest }) t → Steps p.tables e below (T.setTop g) t := by
  subst hg
  obtain ⟨cB, cA, kA, h1, h2, h3, h4⟩ := ho
  obtain ⟨cI, kI, x, i1, i2, i3⟩ := Cond.arrayClass_spec hi
  have hI : cI = cB := Option.some.inj (i1.symm.trans h1)
  subst hI
  obtain ⟨cc, hcc, hcl⟩ := Cond.classLink_spec hown hw e.platform (by rw [X.admits.platform])
  have hA : cc = cA := Option.some.inj (hcc.symm.trans h4)
  subst hA
  obtain ⟨g1, w1, r1⟩ := State.classEntry (e := e) X.warmed hcl
  have hz : (T.vm.noted g.method.cls idx (.cls cc)).classes.size ≤ T.vm.classes.size := by no_record
  generalize T.vm.noted g.method.cls idx (.cls cc) = vm₁ at g1 w1 r1 hz
  obtain ⟨kA1, a1, a2⟩ := w1.alike.2.2 _ _ h2
  obtain ⟨kI1, b1, b2⟩ := w1.alike.2.2 _ _ i2
  have kA2 : kA1.kind = .array cI (.array .int) := by rw [a2]; exact h3
  have kI2 : kI1.kind = .array x .int := by rw [b2]; exact i3
  obtain ⟨q1, q2⟩ := X.roomAbove hce hsl
  obtain ⟨locs', hl, X1⟩ := zoF_stand (X.noted w1) cc cI n.toNatClampNeg k.toNatClampNeg n.toNatClampNeg
  refine ⟨vm₁, cc, cI, locs', h4, h1, hl, X1, fun t hrest => ?_⟩
  refine Steps.instr (c := c) X.here ?_
  rw [hd]
  show wpRun (p.tables.exec (.multianewarray idx 2)) _ _ e (T.setTop g)
  rw [hx]
  show wp (multianewarray.sem idx 2) _ _ e false [] (T.setTop g)
  have htr : ∀ (Q : Unit → Pre) (E : CtlPost) (d : Bool) (acts : List Action), wp (multianewarray.sem idx 2) Q E e d acts (T.setTop g) ↔ wp (multianewarray.sem idx 2) Q E e d acts ((T.setVm vm₁).setTop g) := fun Q E d acts => by
    unfold multianewarray.sem
    rw [wp_bind', wp_bind']
    exact W.resolveClassAt_transfer (s := T.setTop g) (State.method?_setTop g X.here.top) g1 r1 hz
  rw [htr]
  refine zo_sem (s := T.setVm vm₁) X.here.top r1 hst a1 kA2 b1 kI2 hn hN hk hK (Launch.admits_arrayLengthLimit X.admits) (Launch.admits_maxHeapBytes X.admits) ?_ ?_ (fun d' acts' acts9 => ?_)
  · show T.heap.size + 1 + n.toNatClampNeg ≤ _
    omega
  · show T.slotsUsed + n.toNatClampNeg + n.toNatClampNeg * k.toNatClampNeg ≤ _
    omega
  · rw [afterInstr_ok]
    exact hrest
end
end ZOwn
end
section
/-! THE SMALL MACHINE'S JUDGEMENT: a walk over a list of cells at fixed places. Z says: from this place of this method, with these locals, this stack and these cells, the machine comes to the end that Φ names. -/
/-- launch, heap size at the law's entry, classes and slots, array classes, special references, the script, the texts' cells and byte rows -/
abbrev zCtx : Type := Launch × Nat × va_G × (Nat → ClassId) × (Nat → Value) × (Nat × Nat × (Nat → Int32)) × (Nat → Nat) × (Nat → Nat)
def zL (Γ : zCtx) : Launch := Γ.1
def zSz (Γ : zCtx) : Nat := Γ.2.1
def zD (Γ : zCtx) : va_G := Γ.2.2.1
def zAr (Γ : zCtx) : Nat → ClassId := Γ.2.2.2.1
def zSp (Γ : zCtx) : Nat → Value := Γ.2.2.2.2.1
def zScr (Γ : zCtx) : Nat × Nat × (Nat → Int32) := Γ.2.2.2.2.2.1
def zKs (Γ : zCtx) : Nat → Nat := Γ.2.2.2.2.2.2.1
def zVs (Γ : zCtx) : Nat → Nat := Γ.2.2.2.2.2.2.2
def zA (Γ : zCtx) : Nat → Prop := fun q => zSz Γ ≤ q
/-- the words that every method is given -/
def zG : List Cond := lw_tbl.filter goodWord
def zNestB : Cond → Bool
  | .fieldLinkNest .. => true
  | .methodLinkNest .. => true
  | _ => false
def zN : List Cond := tables_1.filter zNestB
theorem zG_good {w : Cond} (h : w ∈ zG) : goodWord w = true := (List.mem_filter.mp h).2
theorem zG_of {w : Cond} (i : Nat) (h : tables_1[i]? = some w) (hg : goodWord w = true) : w ∈ zG := List.mem_filter.mpr ⟨List.mem_append_right _ (List.mem_of_getElem? h), hg⟩
theorem zG_sel {w : Cond} (i : Nat) (h : (k2_sels lw_privs)[i]? = some w) (hg : goodWord w = true) : w ∈ zG := List.mem_filter.mpr ⟨List.mem_append_left _ (List.mem_of_getElem? h), hg⟩
theorem zN_of {w : Cond} (i : Nat) (h : tables_1[i]? = some w) (hg : zNestB w = true) : w ∈ zN := List.mem_filter.mpr ⟨List.mem_of_getElem? h, hg⟩
theorem zG_in (c : Cond) (hc : c ∈ zG) (big : List Cond) (hb : ∀ w ∈ zG, w ∈ big) : GoodIn big (c :: zG) := by
  intro w hw
  rcases List.mem_cons.mp hw with rfl | hw
  · exact ⟨hb _ hc, good_of_word (zG_good hc)⟩
  · exact ⟨hb _ hw, good_of_word (zG_good hw)⟩
/-- array kinds -/
def zTy : Nat → FieldType := fun t => match t with
  | 0 => .int
  | 1 => .long
  | 2 => .boolean
  | _ => .array .int
def zTys (Γ : zCtx) : List (ClassId × FieldType) := [(zAr Γ 0, .int), (zAr Γ 1, .long), (zAr Γ 2, .boolean), (zAr Γ 3, .array .int)]
/-- a value as the machine has it -/
def zv (Γ : zCtx) (v : Value) : Value := match v with
  | .ref k => if k < 1000000 then .ref (zSz Γ + k) else zSp Γ (k - 1000000)
  | v => v
abbrev zE : Type := (Nat × vp_A) ⊕ (Nat × List Value)
def zc (Γ : zCtx) : zE → va_E
  | .inl (t, n, .inr (.inr (.inr (.inr f)))) => .inl (zAr Γ t, n, .inr (.inr (.inr (.inr (fun i => (f i).map (fun k => zSz Γ + k))))))
  | .inl (t, a) => .inl (zAr Γ t, a)
  | .inr (c, fs) => .inr (c, fs.map (zv Γ))
def zw (Γ : zCtx) (M : List zE) : va_W := M.mapIdx (fun k c => (zSz Γ + k, zc Γ c))
theorem zv_ref {Γ : zCtx} {k : Nat} (h : k < 1000000) : zv Γ (.ref k) = .ref (zSz Γ + k) := if_pos h
theorem zw_get {Γ : zCtx} {M : List zE} {k : Nat} {c : zE} (h : M[k]? = some c) : (zw Γ M)[k]? = some (zSz Γ + k, zc Γ c) := by
  simp [zw, List.getElem?_mapIdx, h]
theorem zw_set {Γ : zCtx} {M : List zE} {k : Nat} {c : zE} : zw Γ (M.set k c) = (zw Γ M).set k (zSz Γ + k, zc Γ c) := by
  apply List.ext_getElem?
  intro i
  simp only [zw, List.getElem?_mapIdx, List.getElem?_set, List.length_mapIdx]
  by_cases h : k = i
  · subst h
    by_cases h2 : k < M.length
    · simp [h2]
    · simp [h2]
  · simp [h]
theorem zw_app {Γ : zCtx} {M : List zE} {c : zE} : zw Γ (M ++ [c]) = zw Γ M ++ [(zSz Γ + M.length, zc Γ c)] := by
  simp [zw, List.mapIdx_append]
theorem zw_at {Γ : zCtx} {M : List zE} {k : Nat} {q : Nat × va_E} (h : (zw Γ M)[k]? = some q) : k < M.length ∧ q.1 = zSz Γ + k := by
  simp only [zw, List.getElem?_mapIdx, Option.map_eq_some_iff] at h
  obtain ⟨c, h1, h2⟩ := h
  exact ⟨(List.getElem?_eq_some_iff.mp h1).1, by rw [← h2]⟩
theorem zw_D (Γ : zCtx) (M : List zE) : va_D (zA Γ) (zw Γ M) := by
  refine ⟨fun i j x y hi hj hxy => ?_, fun k q hk => ?_⟩
  · have h1 := (zw_at hi).2
    have h2 := (zw_at hj).2
    omega
  · have h1 := (zw_at hk).2
    show zSz Γ ≤ q.1
    omega
theorem z_lt {M : List zE} {k : Nat} {c : zE} (h : M[k]? = some c) : k < M.length := (List.getElem?_eq_some_iff.mp h).1
/-- locals: what is known of each place -/
def zLs (Γ : zCtx) (la : Array Slot) (nL : Nat) (ls : List (Option Value)) : Prop := la.size = nL ∧ lv_wf la ∧ ∀ (i : Nat) (v : Value), ls[i]? = some (some v) → la[i]? = some (.val (zv Γ v))
/-- the texts: owner class, entry, text, bytes -/
def zStr : List (String × Nat × String × List Int32) := [("StatuteConsolidator$Input", 79, "insert", [105, 110, 115, 101, 114, 116]), ("StatuteConsolidator$Input", 81, "add", [97, 100, 100]), ("StatuteConsolidator$Input", 83, "replace", [114, 101, 112, 108, 97, 99, 101]), ("StatuteConsolidator$Input", 85, "repeal", [114, 101, 112, 101, 97, 108]), ("StatuteConsolidator$Input", 87, "move", [109, 111, 118, 101]), ("StatuteConsolidator$Input", 89, "renumber", [114, 101, 110, 117, 109, 98, 101, 114]), ("StatuteConsolidatorModel", 239, "insert ", [105, 110, 115, 101, 114, 116, 32]), ("StatuteConsolidatorModel", 241, "add ", [97, 100, 100, 32]), ("StatuteConsolidatorModel", 243, "replace ", [114, 101, 112, 108, 97, 99, 101, 32]), ("StatuteConsolidatorModel", 245, "repeal ", [114, 101, 112, 101, 97, 108, 32]), ("StatuteConsolidatorModel", 247, "move ", [109, 111, 118, 101, 32]), ("StatuteConsolidatorModel", 249, "renumber ", [114, 101, 110, 117, 109, 98, 101, 114, 32])]
/-- what holds of the tables, and of the cells that no method writes -/
def zKB (Γ : zCtx) (U : State) : Prop :=
  va_K (zD Γ) zCl (zTys Γ) U ∧ (∀ w ∈ zN, va_Nw w U) ∧ (∀ (i : Nat) (q : String × Nat × String × List Int32), zStr[i]? = some q → vk_R q.1 q.2.1 q.2.2.1 (zKs Γ i) U) ∧
  vk_S 12 (zStr.map (fun q => q.2.2.2.length)) (zStr.map (fun q => q.2.2.2)) (zKs Γ) (zVs Γ) (zA Γ) U U.heap ∧
  va_X (zScr Γ).1 (zScr Γ).2.1 (zScr Γ).2.2 U U.heap ∧ va_Z "java/lang/String" "COMPACT_STRINGS" "Z" (.int 1) (zA Γ) U U.heap ∧ va_Z "jdk/internal/util/Preconditions" "SIOOBE_FORMATTER" "Ljava/util/function/BiFunction;" (zSp Γ 200) (zA Γ) U U.heap ∧
  (zScr Γ).1 < zSz Γ ∧ zSz Γ ≤ U.heap.size ∧ zSp Γ 0 = .ref (zScr Γ).1 ∧ ((∀ i, i < 12 → zSp Γ (1 + i) = .ref (zKs Γ i) ∧ zSp Γ (101 + i) = .ref (zVs Γ i)) ∧ zoT U.vm) ∧ (∀ k, zSp Γ k = .null ∨ ∃ a, zSp Γ k = .ref a)
theorem zN_warm {w : Cond} (hw : w ∈ zN) {s U : State} (hW : s.WarmedH U.vm) (h : va_Nw w s) : va_Nw w U := by
  have h1 := (List.mem_filter.mp hw).2
  cases w <;> first | exact va_Nw.warmF hW h | exact va_Nw.warmM hW h | (simp [zNestB] at h1)
theorem zKB.to {Γ : zCtx} {u U : State} (hW : u.WarmedH U.vm) (hH : ∀ q : Nat, q < u.heap.size → ¬ zA Γ q → U.heap[q]? = u.heap[q]?) (hz : zSz Γ ≤ U.heap.size) (h : zKB Γ u) : zKB Γ U := by
  obtain ⟨h1, h2, h3, h4, h5, h6, h7, h8, h9, h10, ⟨h11, hao⟩, h12⟩ := h
  have hb : ¬ zA Γ (zScr Γ).1 := Nat.not_le.mpr h8
  exact ⟨h1.moved hW.alike, fun w hw => zN_warm hw hW (h2 w hw), fun i q hq => (h3 i q hq).warm hW, (h4.moved hW.alike).kept hH, (h5.moved hW.alike).kept (hH _ (Nat.lt_of_lt_of_le h8 h9) hb), (h6.moved hW.alike).kept hH, (h7.moved hW.alike).kept hH, h8, hz, h10, ⟨h11, hao.to hW.alike⟩, h12⟩
/-- a method: its class, its name, its bytes, its locals, its answer's type, the cells and slots that it makes -/
abbrev zMe : Type := String × MethodName × ByteArray × Nat × Option FieldType × Nat × Nat
def zAt (Γ : zCtx) (μ : zMe) (p : Program) (s : State) (m : MethodId) (args : Array Value) (meth : Method) (c : Code) : Prop :=
  p.tables.exec = Jvm.exec ∧ c.code = μ.2.2.1 ∧ meth.sig.returnType = μ.2.2.2.2.1 ∧ c.maxLocals = μ.2.2.2.1 ∧ s.vm.findClass μ.1 = some m.cls ∧ (∀ w ∈ zG, w.before args s = true) ∧ meth.locks = false ∧ meth.name = μ.2.1.name ∧ zKB Γ s
abbrev zPhi : Type := List Frame → Array Value → State → State → Prop
def Z (Γ : zCtx) (R : Room) (μ : zMe) (Φ : zPhi) (kc ks pc : Nat) (ls : List (Option Value)) (st : List Value) (M : List zE) : Prop :=
  ∀ (p : Program) (e : Env) (s : State) (m : MethodId) (args : Array Value) (below : List Frame) (meth : Method) (c : Code) (d0 : Drawn) (H : Heap) (locs : List Loc) (la : Array Slot),
    zAt Γ μ p s m args meth c → s.drawn.sameBut d0 lw_cs → va_P (zD Γ) zCl (zw Γ M) H → va_S (zA Γ) s.heap H locs → s.heap.size + kc = zSz Γ + M.length → M.length ≤ 1000000 → zLs Γ la μ.2.2.2.1 ls →
    W p (zL Γ) e R (s.setDrawn d0) m args below meth c H locs kc ks (Φ below args s) (F0 m pc la (st.map (zv Γ)))
def zRm (d : Nat) (μ : zMe) : Room := { frames := d, cells := μ.2.2.2.2.2.1, slots := μ.2.2.2.2.2.2, locals := 64 * d }
def zQc (Γ : zCtx) (mc : Nat) (Q : List zE → Option Value → Prop) : Array Value → State → Outcome → State → Prop := fun _ st oc t =>
  (∃ (v : Option Value) (M : List zE), oc = .returned (v.map (zv Γ)) ∧ Q M v ∧ st.heap.size + mc = zSz Γ + M.length ∧ M.length ≤ 1000000 ∧ va_P (zD Γ) zCl (zw Γ M) t.heap) ∧ va_F (zA Γ) st t
def zWs (μ : zMe) : List Cond := .code μ.2.1 μ.2.2.1 μ.2.2.2.1 μ.2.2.2.2.1 :: zG
def zPc (Γ : zCtx) (args : List Value) (M : List zE) : Array Value → State → Prop := va_Pc (args.map (zv Γ)) (fun U => zKB Γ U ∧ va_P (zD Γ) zCl (zw Γ M) U.heap ∧ U.heap.size = zSz Γ + M.length ∧ M.length ≤ 1000000)
/-- a method's contract: from these cells it comes back with an answer and cells that Q names -/
def ZM (Γ : zCtx) (d : Nat) (μ : zMe) (args : List Value) (M : List zE) (Q : List zE → Option Value → Prop) : Prop :=
  MetD lw_cs (zL Γ) μ.2.1 (zWs μ) (zRm d μ) (zPc Γ args M) (zQc Γ μ.2.2.2.2.2.1 Q) μ.2.2.2.2.2.1 μ.2.2.2.2.2.2 (zA Γ)
def zPh (Γ : zCtx) (μ : zMe) (Q : List zE → Option Value → Prop) : zPhi := fun below args s => MQD lw_cs below (zQc Γ μ.2.2.2.2.2.1 Q) args s μ.2.2.2.2.2.1 μ.2.2.2.2.2.2 (zA Γ)
/-- the locals at the entry -/
def zEn : List Value → List (Option Value)
  | [] => []
  | v :: l => if v.category = 2 then some v :: none :: zEn l else some v :: zEn l
theorem zv_cat {Γ : zCtx} (hs : ∀ k, zSp Γ k = .null ∨ ∃ a, zSp Γ k = .ref a) (v : Value) : (zv Γ v).category = v.category := by
  cases v with
  | ref k =>
    unfold zv
    by_cases h : k < 1000000
    · simp only [h, if_true]; rfl
    · simp only [h, if_false]
      rcases hs (k - 1000000) with h | ⟨a, h⟩ <;> rw [h] <;> rfl
  | _ => rfl
theorem zEn_args {Γ : zCtx} (hs : ∀ k, zSp Γ k = .null ∨ ∃ a, zSp Γ k = .ref a) : ∀ (l : List Value) (n i : Nat) (v : Value), (zEn l)[i]? = some (some v) → (n + i, zv Γ v) ∈ lv_args n (l.map (zv Γ))
  | [], n, i, v, h => by simp [zEn] at h
  | w :: l, n, i, v, h => by
    have hc := zv_cat hs w
    unfold zEn at h
    by_cases h2 : w.category = 2
    · rw [if_pos h2] at h
      match i, h with
      | 0, h =>
        simp only [List.getElem?_cons_zero, Option.some.injEq] at h
        subst h
        simp [lv_args]
      | 1, h => simp at h
      | i + 2, h =>
        simp only [List.getElem?_cons_succ] at h
        have := zEn_args hs l (n + 2) i v h
        simp only [List.map_cons, lv_args, hc, h2]
        refine List.mem_cons_of_mem _ ?_
        rw [show n + (i + 2) = n + 2 + i by omega]
        exact this
    · rw [if_neg h2] at h
      have h1 : w.category = 1 := by rcases lv_cat w with q | q; exact q; exact absurd q h2
      match i, h with
      | 0, h =>
        simp only [List.getElem?_cons_zero, Option.some.injEq] at h
        subst h
        simp [lv_args]
      | i + 1, h =>
        simp only [List.getElem?_cons_succ] at h
        have := zEn_args hs l (n + 1) i v h
        simp only [List.map_cons, lv_args, hc, h1]
        refine List.mem_cons_of_mem _ ?_
        rw [show n + (i + 1) = n + 1 + i by omega]
        exact this
theorem zEn_len {Γ : zCtx} (hs : ∀ k, zSp Γ k = .null ∨ ∃ a, zSp Γ k = .ref a) : ∀ l : List Value, (lg_sl (l.map (zv Γ))).length = (zEn l).length
  | [] => rfl
  | w :: l => by
    have ih := zEn_len hs l
    have hc := zv_cat hs w
    unfold lg_sl at ih ⊢
    unfold zEn
    simp only [List.map_cons, List.flatMap_cons, List.length_append, ih, hc]
    by_cases h2 : w.category = 2
    · simp only [h2, if_true, List.length_cons, List.length_nil]; omega
    · simp only [h2, if_false, List.length_cons, List.length_nil]; omega
end
section
theorem zv_refs {Γ : zCtx} (hs : ∀ k, zSp Γ k = .null ∨ ∃ a, zSp Γ k = .ref a) (x : Nat) : zv Γ (.ref x) = .null ∨ ∃ a, zv Γ (.ref x) = .ref a := by
  unfold zv
  by_cases h : x < 1000000
  · simp only [h, if_true]; exact Or.inr ⟨_, rfl⟩
  · simp only [h, if_false]; exact hs _
/-- the known locals as a list of places and values -/
def zPr (Γ : zCtx) (ls : List (Option Value)) : List (Nat × Value) := (ls.mapIdx (fun i o => o.map (fun v => (i, zv Γ v)))).filterMap id
theorem zPr_mem {Γ : zCtx} {ls : List (Option Value)} {i : Nat} {v : Value} (h : ls[i]? = some (some v)) : (i, zv Γ v) ∈ zPr Γ ls := by
  refine List.mem_filterMap.mpr ⟨some (i, zv Γ v), List.mem_of_getElem? (i := i) ?_, rfl⟩
  simp [List.getElem?_mapIdx, h]
theorem zPr_of {Γ : zCtx} {ls : List (Option Value)} {q : Nat × Value} (h : q ∈ zPr Γ ls) : ∃ v, ls[q.1]? = some (some v) ∧ q.2 = zv Γ v := by
  obtain ⟨o, h1, h2⟩ := List.mem_filterMap.mp h
  obtain ⟨j, hj⟩ := List.getElem?_of_mem h1
  simp only [List.getElem?_mapIdx, Option.map_eq_some_iff] at hj
  obtain ⟨w, hw, rfl⟩ := hj
  cases w with
  | none => simp at h2
  | some v =>
    simp only [Option.map_some, id_eq, Option.some.injEq] at h2
    subst h2
    exact ⟨v, hw, rfl⟩
theorem zLs_has {Γ : zCtx} {la : Array Slot} {nL : Nat} {ls : List (Option Value)} (h : zLs Γ la nL ls) : lv_has la nL (zPr Γ ls) := by
  refine ⟨h.1, h.2.1, fun q hq => ?_⟩
  obtain ⟨v, h1, h2⟩ := zPr_of hq
  rw [h2]
  exact h.2.2 _ _ h1
/-- a wide value just below the place that is written is lost -/
def zClr (ls : List (Option Value)) (i : Nat) : List (Option Value) := match i with
  | 0 => ls
  | j + 1 => match ls[j]? with
    | some (some (.long _)) => ls.set j none
    | some (some (.double _)) => ls.set j none
    | _ => ls
def zSt1 (ls : List (Option Value)) (i : Nat) (v : Value) : List (Option Value) := (zClr ls i).set i (some v)
def zSt2 (ls : List (Option Value)) (i : Nat) (v : Value) : List (Option Value) := ((zClr ls i).set i (some v)).set (i + 1) none
theorem zClr_of {ls : List (Option Value)} {i j : Nat} {v : Value} (h : (zClr ls i)[j]? = some (some v)) : ls[j]? = some (some v) ∧ ¬ (j + 1 = i ∧ v.category = 2) := by
  cases i with
  | zero => exact ⟨h, fun q => absurd q.1 (by omega)⟩
  | succ i =>
    simp only [zClr] at h
    have set_case : (ls.set i none)[j]? = some (some v) → ls[j]? = some (some v) ∧ ¬ (j + 1 = i + 1 ∧ v.category = 2) := by
      intro h
      by_cases hij : i = j
      · subst hij
        rw [List.getElem?_set] at h
        simp only [if_true] at h
        split at h <;> simp at h
      · rw [List.getElem?_set_ne hij] at h
        exact ⟨h, fun q => hij (by omega)⟩
    split at h
    · exact set_case h
    · exact set_case h
    · rename_i n1 n2
      refine ⟨h, fun q => ?_⟩
      obtain ⟨q1, q2⟩ := q
      have : j = i := by omega
      subst this
      cases v with
      | long x => exact n1 x h
      | double x => exact n2 x h
      | _ => cases q2
theorem zSt1_ok {Γ : zCtx} (hs : ∀ k, zSp Γ k = .null ∨ ∃ a, zSp Γ k = .ref a) {la1 : Array Slot} {nL i : Nat} {ls : List (Option Value)} {v w : Value} (hv : zv Γ v = w) (h : lv_has la1 nL ((i, w) :: (zPr Γ ls).filter (fun q => !(q.1 == i) && !(q.1 + 1 == i && q.2.category == 2)))) : zLs Γ la1 nL (zSt1 ls i v) := by
  refine ⟨h.1, h.2.1, fun j u hj => ?_⟩
  unfold zSt1 at hj
  by_cases hij : i = j
  · subst hij
    rw [List.getElem?_set] at hj
    simp only [if_true] at hj
    split at hj
    · cases hj
      rw [hv]
      exact h.2.2 (i, w) List.mem_cons_self
    · cases hj
  · rw [List.getElem?_set_ne hij] at hj
    obtain ⟨h1, h2⟩ := zClr_of hj
    refine h.2.2 (j, zv Γ u) (List.mem_cons_of_mem _ (List.mem_filter.mpr ⟨zPr_mem h1, ?_⟩))
    have hne : ¬ j = i := fun q => hij q.symm
    by_cases hj1 : j + 1 = i
    · have hc : ¬ u.category = 2 := fun q => h2 ⟨hj1, q⟩
      simp [hne, hj1, zv_cat hs, hc]
    · simp [hne, hj1]
theorem zSt2_ok {Γ : zCtx} (hs : ∀ k, zSp Γ k = .null ∨ ∃ a, zSp Γ k = .ref a) {la1 : Array Slot} {nL i : Nat} {ls : List (Option Value)} {v w : Value} (hv : zv Γ v = w) (h : lv_has la1 nL ((i, w) :: (zPr Γ ls).filter (fun q => !(q.1 == i) && (!(q.1 == i + 1) && !(q.1 + 1 == i && q.2.category == 2))))) : zLs Γ la1 nL (zSt2 ls i v) := by
  refine ⟨h.1, h.2.1, fun j u hj => ?_⟩
  unfold zSt2 at hj
  by_cases hij2 : i + 1 = j
  · subst hij2
    rw [List.getElem?_set] at hj
    simp only [if_true] at hj
    split at hj <;> simp at hj
  rw [List.getElem?_set_ne hij2] at hj
  by_cases hij : i = j
  · subst hij
    rw [List.getElem?_set] at hj
    simp only [if_true] at hj
    split at hj
    · cases hj
      rw [hv]
      exact h.2.2 (i, w) List.mem_cons_self
    · cases hj
  · rw [List.getElem?_set_ne hij] at hj
    obtain ⟨h1, h2⟩ := zClr_of hj
    refine h.2.2 (j, zv Γ u) (List.mem_cons_of_mem _ (List.mem_filter.mpr ⟨zPr_mem h1, ?_⟩))
    have hne : ¬ j = i := fun q => hij q.symm
    have hne2 : ¬ j = i + 1 := fun q => hij2 q.symm
    by_cases hj1 : j + 1 = i
    · have hc : ¬ u.category = 2 := fun q => h2 ⟨hj1, q⟩
      simp [hne, hj1, hne2, zv_cat hs, hc]
    · simp [hne, hj1, hne2]
section ZR
variable {Γ : zCtx} {R : Room} {μ : zMe} {Φ : zPhi} {kc ks pc : Nat} {ls : List (Option Value)} {st : List Value} {M : List zE}
theorem Z_iadd {x y : Int32} (hd : decode μ.2.2.1 pc = .ok (.iadd, 1)) (k : Z Γ R μ Φ kc ks (pc + 1) ls (.int (x + y) :: st) M) : Z Γ R μ Φ kc ks pc ls (.int y :: .int x :: st) M := by
  intro p e s m args below meth c d0 H locs la hc hd0 hP hS hz hn hl
  exact lv_iadd hc.1 hc.2.1 hd (k p e s m args below meth c d0 H locs la hc hd0 hP hS hz hn hl)
theorem Z_isub {x y : Int32} (hd : decode μ.2.2.1 pc = .ok (.isub, 1)) (k : Z Γ R μ Φ kc ks (pc + 1) ls (.int (x - y) :: st) M) : Z Γ R μ Φ kc ks pc ls (.int y :: .int x :: st) M := by
  intro p e s m args below meth c d0 H locs la hc hd0 hP hS hz hn hl
  exact lv_isub hc.1 hc.2.1 hd (k p e s m args below meth c d0 H locs la hc hd0 hP hS hz hn hl)
theorem Z_imul {x y : Int32} (hd : decode μ.2.2.1 pc = .ok (.imul, 1)) (k : Z Γ R μ Φ kc ks (pc + 1) ls (.int (x * y) :: st) M) : Z Γ R μ Φ kc ks pc ls (.int y :: .int x :: st) M := by
  intro p e s m args below meth c d0 H locs la hc hd0 hP hS hz hn hl
  exact lv_imul hc.1 hc.2.1 hd (k p e s m args below meth c d0 H locs la hc hd0 hP hS hz hn hl)
theorem Z_iand {x y : Int32} (hd : decode μ.2.2.1 pc = .ok (.iand, 1)) (k : Z Γ R μ Φ kc ks (pc + 1) ls (.int (x &&& y) :: st) M) : Z Γ R μ Φ kc ks pc ls (.int y :: .int x :: st) M := by
  intro p e s m args below meth c d0 H locs la hc hd0 hP hS hz hn hl
  exact lv_iand hc.1 hc.2.1 hd (k p e s m args below meth c d0 H locs la hc hd0 hP hS hz hn hl)
theorem Z_ior {x y : Int32} (hd : decode μ.2.2.1 pc = .ok (.ior, 1)) (k : Z Γ R μ Φ kc ks (pc + 1) ls (.int (x ||| y) :: st) M) : Z Γ R μ Φ kc ks pc ls (.int y :: .int x :: st) M := by
  intro p e s m args below meth c d0 H locs la hc hd0 hP hS hz hn hl
  exact lv_ior hc.1 hc.2.1 hd (k p e s m args below meth c d0 H locs la hc hd0 hP hS hz hn hl)
theorem Z_ishl {x y : Int32} (hd : decode μ.2.2.1 pc = .ok (.ishl, 1)) (k : Z Γ R μ Φ kc ks (pc + 1) ls (.int (x <<< (y &&& 31)) :: st) M) : Z Γ R μ Φ kc ks pc ls (.int y :: .int x :: st) M := by
  intro p e s m args below meth c d0 H locs la hc hd0 hP hS hz hn hl
  exact lv_ishl hc.1 hc.2.1 hd (k p e s m args below meth c d0 H locs la hc hd0 hP hS hz hn hl)
theorem Z_ishr {x y : Int32} (hd : decode μ.2.2.1 pc = .ok (.ishr, 1)) (k : Z Γ R μ Φ kc ks (pc + 1) ls (.int (x >>> (y &&& 31)) :: st) M) : Z Γ R μ Φ kc ks pc ls (.int y :: .int x :: st) M := by
  intro p e s m args below meth c d0 H locs la hc hd0 hP hS hz hn hl
  exact lv_ishr hc.1 hc.2.1 hd (k p e s m args below meth c d0 H locs la hc hd0 hP hS hz hn hl)
theorem Z_ladd {x y : Int64} (hd : decode μ.2.2.1 pc = .ok (.ladd, 1)) (k : Z Γ R μ Φ kc ks (pc + 1) ls (.long (x + y) :: st) M) : Z Γ R μ Φ kc ks pc ls (.long y :: .long x :: st) M := by
  intro p e s m args below meth c d0 H locs la hc hd0 hP hS hz hn hl
  exact lv_ladd hc.1 hc.2.1 hd (k p e s m args below meth c d0 H locs la hc hd0 hP hS hz hn hl)
theorem Z_lsub {x y : Int64} (hd : decode μ.2.2.1 pc = .ok (.lsub, 1)) (k : Z Γ R μ Φ kc ks (pc + 1) ls (.long (x - y) :: st) M) : Z Γ R μ Φ kc ks pc ls (.long y :: .long x :: st) M := by
  intro p e s m args below meth c d0 H locs la hc hd0 hP hS hz hn hl
  exact lv_lsub hc.1 hc.2.1 hd (k p e s m args below meth c d0 H locs la hc hd0 hP hS hz hn hl)
theorem Z_lmul {x y : Int64} (hd : decode μ.2.2.1 pc = .ok (.lmul, 1)) (k : Z Γ R μ Φ kc ks (pc + 1) ls (.long (x * y) :: st) M) : Z Γ R μ Φ kc ks pc ls (.long y :: .long x :: st) M := by
  intro p e s m args below meth c d0 H locs la hc hd0 hP hS hz hn hl
  exact lv_lmul hc.1 hc.2.1 hd (k p e s m args below meth c d0 H locs la hc hd0 hP hS hz hn hl)
theorem Z_land {x y : Int64} (hd : decode μ.2.2.1 pc = .ok (.land, 1)) (k : Z Γ R μ Φ kc ks (pc + 1) ls (.long (x &&& y) :: st) M) : Z Γ R μ Φ kc ks pc ls (.long y :: .long x :: st) M := by
  intro p e s m args below meth c d0 H locs la hc hd0 hP hS hz hn hl
  exact lv_land hc.1 hc.2.1 hd (k p e s m args below meth c d0 H locs la hc hd0 hP hS hz hn hl)
theorem Z_lor {x y : Int64} (hd : decode μ.2.2.1 pc = .ok (.lor, 1)) (k : Z Γ R μ Φ kc ks (pc + 1) ls (.long (x ||| y) :: st) M) : Z Γ R μ Φ kc ks pc ls (.long y :: .long x :: st) M := by
  intro p e s m args below meth c d0 H locs la hc hd0 hP hS hz hn hl
  exact lv_lor hc.1 hc.2.1 hd (k p e s m args below meth c d0 H locs la hc hd0 hP hS hz hn hl)
theorem Z_lxor {x y : Int64} (hd : decode μ.2.2.1 pc = .ok (.lxor, 1)) (k : Z Γ R μ Φ kc ks (pc + 1) ls (.long (x ^^^ y) :: st) M) : Z Γ R μ Φ kc ks pc ls (.long y :: .long x :: st) M := by
  intro p e s m args below meth c d0 H locs la hc hd0 hP hS hz hn hl
  exact lv_lxor hc.1 hc.2.1 hd (k p e s m args below meth c d0 H locs la hc hd0 hP hS hz hn hl)
theorem Z_idiv {x y : Int32} (hd : decode μ.2.2.1 pc = .ok (.idiv, 1)) (hne : ¬ y = 0) (k : Z Γ R μ Φ kc ks (pc + 1) ls (.int (x / y) :: st) M) : Z Γ R μ Φ kc ks pc ls (.int y :: .int x :: st) M := by
  intro p e s m args below meth c d0 H locs la hc hd0 hP hS hz hn hl
  exact lv_idiv hc.1 hc.2.1 hd hne (k p e s m args below meth c d0 H locs la hc hd0 hP hS hz hn hl)
theorem Z_irem {x y : Int32} (hd : decode μ.2.2.1 pc = .ok (.irem, 1)) (hne : ¬ y = 0) (k : Z Γ R μ Φ kc ks (pc + 1) ls (.int (x - x / y * y) :: st) M) : Z Γ R μ Φ kc ks pc ls (.int y :: .int x :: st) M := by
  intro p e s m args below meth c d0 H locs la hc hd0 hP hS hz hn hl
  exact lv_irem hc.1 hc.2.1 hd hne (k p e s m args below meth c d0 H locs la hc hd0 hP hS hz hn hl)
theorem Z_ldiv {x y : Int64} (hd : decode μ.2.2.1 pc = .ok (.ldiv, 1)) (hne : ¬ y = 0) (k : Z Γ R μ Φ kc ks (pc + 1) ls (.long (x / y) :: st) M) : Z Γ R μ Φ kc ks pc ls (.long y :: .long x :: st) M := by
  intro p e s m args below meth c d0 H locs la hc hd0 hP hS hz hn hl
  exact lv_ldiv hc.1 hc.2.1 hd hne (k p e s m args below meth c d0 H locs la hc hd0 hP hS hz hn hl)
theorem Z_lrem {x y : Int64} (hd : decode μ.2.2.1 pc = .ok (.lrem, 1)) (hne : ¬ y = 0) (k : Z Γ R μ Φ kc ks (pc + 1) ls (.long (x - x / y * y) :: st) M) : Z Γ R μ Φ kc ks pc ls (.long y :: .long x :: st) M := by
  intro p e s m args below meth c d0 H locs la hc hd0 hP hS hz hn hl
  exact lv_lrem hc.1 hc.2.1 hd hne (k p e s m args below meth c d0 H locs la hc hd0 hP hS hz hn hl)
theorem Z_lshl {x : Int64} {y : Int32} (hd : decode μ.2.2.1 pc = .ok (.lshl, 1)) (k : Z Γ R μ Φ kc ks (pc + 1) ls (.long (x <<< (y.toInt64 &&& 63)) :: st) M) : Z Γ R μ Φ kc ks pc ls (.int y :: .long x :: st) M := by
  intro p e s m args below meth c d0 H locs la hc hd0 hP hS hz hn hl
  exact lv_lshl hc.1 hc.2.1 hd rfl (k p e s m args below meth c d0 H locs la hc hd0 hP hS hz hn hl)
theorem Z_lshr {x : Int64} {y : Int32} (hd : decode μ.2.2.1 pc = .ok (.lshr, 1)) (k : Z Γ R μ Φ kc ks (pc + 1) ls (.long (x >>> (y.toInt64 &&& 63)) :: st) M) : Z Γ R μ Φ kc ks pc ls (.int y :: .long x :: st) M := by
  intro p e s m args below meth c d0 H locs la hc hd0 hP hS hz hn hl
  exact lv_lshr hc.1 hc.2.1 hd rfl (k p e s m args below meth c d0 H locs la hc hd0 hP hS hz hn hl)
theorem Z_lcmp {x y : Int64} (hd : decode μ.2.2.1 pc = .ok (.lcmp, 1)) (k : Z Γ R μ Φ kc ks (pc + 1) ls (.int (lg_cmp x y) :: st) M) : Z Γ R μ Φ kc ks pc ls (.long y :: .long x :: st) M := by
  intro p e s m args below meth c d0 H locs la hc hd0 hP hS hz hn hl
  exact W.lcmp hc.1 hc.2.1 hd (k p e s m args below meth c d0 H locs la hc hd0 hP hS hz hn hl)
theorem Z_i2l {x : Int32} (hd : decode μ.2.2.1 pc = .ok (.i2l, 1)) (k : Z Γ R μ Φ kc ks (pc + 1) ls (.long x.toInt64 :: st) M) : Z Γ R μ Φ kc ks pc ls (.int x :: st) M := by
  intro p e s m args below meth c d0 H locs la hc hd0 hP hS hz hn hl
  exact lv_i2l hc.1 hc.2.1 hd rfl (k p e s m args below meth c d0 H locs la hc hd0 hP hS hz hn hl)
theorem Z_l2i {x : Int64} (hd : decode μ.2.2.1 pc = .ok (.l2i, 1)) (k : Z Γ R μ Φ kc ks (pc + 1) ls (.int x.toInt32 :: st) M) : Z Γ R μ Φ kc ks pc ls (.long x :: st) M := by
  intro p e s m args below meth c d0 H locs la hc hd0 hP hS hz hn hl
  exact lv_l2i hc.1 hc.2.1 hd rfl (k p e s m args below meth c d0 H locs la hc hd0 hP hS hz hn hl)
theorem Z_i2c {x : Int32} (hd : decode μ.2.2.1 pc = .ok (.i2c, 1)) (k : Z Γ R μ Φ kc ks (pc + 1) ls (.int (x.toUInt32 % 65536).toInt32 :: st) M) : Z Γ R μ Φ kc ks pc ls (.int x :: st) M := by
  intro p e s m args below meth c d0 H locs la hc hd0 hP hS hz hn hl
  exact lv_i2c hc.1 hc.2.1 hd rfl (k p e s m args below meth c d0 H locs la hc hd0 hP hS hz hn hl)
theorem Z_i2f {x : Int32} (hd : decode μ.2.2.1 pc = .ok (.i2f, 1)) (k : Z Γ R μ Φ kc ks (pc + 1) ls (.float (FP.i2f x) :: st) M) : Z Γ R μ Φ kc ks pc ls (.int x :: st) M := by
  intro p e s m args below meth c d0 H locs la hc hd0 hP hS hz hn hl
  exact lv_i2f hc.1 hc.2.1 hd (k p e s m args below meth c d0 H locs la hc hd0 hP hS hz hn hl)
theorem Z_i2d {x : Int32} (hd : decode μ.2.2.1 pc = .ok (.i2d, 1)) (k : Z Γ R μ Φ kc ks (pc + 1) ls (.double (FP.i2d x) :: st) M) : Z Γ R μ Φ kc ks pc ls (.int x :: st) M := by
  intro p e s m args below meth c d0 H locs la hc hd0 hP hS hz hn hl
  exact lv_i2d hc.1 hc.2.1 hd (k p e s m args below meth c d0 H locs la hc hd0 hP hS hz hn hl)
theorem Z_fcmp {x y : UInt32} {op : CmpOp} (hd : decode μ.2.2.1 pc = .ok (.fcmp op, 1)) (k : Z Γ R μ Φ kc ks (pc + 1) ls (.int (Op.cmpValue (FP.fcmp x y) op) :: st) M) : Z Γ R μ Φ kc ks pc ls (.float y :: .float x :: st) M := by
  intro p e s m args below meth c d0 H locs la hc hd0 hP hS hz hn hl
  exact lv_fcmp hc.1 hc.2.1 hd (k p e s m args below meth c d0 H locs la hc hd0 hP hS hz hn hl)
theorem Z_dcmp {x y : UInt64} {op : CmpOp} (hd : decode μ.2.2.1 pc = .ok (.dcmp op, 1)) (k : Z Γ R μ Φ kc ks (pc + 1) ls (.int (Op.cmpValue (FP.dcmp x y) op) :: st) M) : Z Γ R μ Φ kc ks pc ls (.double y :: .double x :: st) M := by
  intro p e s m args below meth c d0 H locs la hc hd0 hP hS hz hn hl
  exact lv_dcmp hc.1 hc.2.1 hd (k p e s m args below meth c d0 H locs la hc hd0 hP hS hz hn hl)
theorem Z_iconst {n : Int} (hd : decode μ.2.2.1 pc = .ok (.iconst n, 1)) (k : Z Γ R μ Φ kc ks (pc + 1) ls (.int (Int32.ofInt n) :: st) M) : Z Γ R μ Φ kc ks pc ls (st) M := by
  intro p e s m args below meth c d0 H locs la hc hd0 hP hS hz hn hl
  exact lv_iconst hc.1 hc.2.1 hd rfl (k p e s m args below meth c d0 H locs la hc hd0 hP hS hz hn hl)
theorem Z_bipush {n : Int} (hd : decode μ.2.2.1 pc = .ok (.bipush n, 2)) (k : Z Γ R μ Φ kc ks (pc + 2) ls (.int (Int8.ofInt n).toInt32 :: st) M) : Z Γ R μ Φ kc ks pc ls (st) M := by
  intro p e s m args below meth c d0 H locs la hc hd0 hP hS hz hn hl
  exact lv_bipush hc.1 hc.2.1 hd rfl (k p e s m args below meth c d0 H locs la hc hd0 hP hS hz hn hl)
theorem Z_sipush {n : Int} (hd : decode μ.2.2.1 pc = .ok (.sipush n, 3)) (k : Z Γ R μ Φ kc ks (pc + 3) ls (.int (Int16.ofInt n).toInt32 :: st) M) : Z Γ R μ Φ kc ks pc ls (st) M := by
  intro p e s m args below meth c d0 H locs la hc hd0 hP hS hz hn hl
  exact lv_sipush hc.1 hc.2.1 hd rfl (k p e s m args below meth c d0 H locs la hc hd0 hP hS hz hn hl)
theorem Z_lconst {n : Fin 2} (hd : decode μ.2.2.1 pc = .ok (.lconst n, 1)) (k : Z Γ R μ Φ kc ks (pc + 1) ls (.long (Int64.ofNat (n : Nat)) :: st) M) : Z Γ R μ Φ kc ks pc ls (st) M := by
  intro p e s m args below meth c d0 H locs la hc hd0 hP hS hz hn hl
  exact lv_lconst hc.1 hc.2.1 hd rfl (k p e s m args below meth c d0 H locs la hc hd0 hP hS hz hn hl)
theorem Z_dup {v : Value} (hd : decode μ.2.2.1 pc = .ok (.dup, 1)) (hv : v.category = 1) (k : Z Γ R μ Φ kc ks (pc + 1) ls (v :: v :: st) M) : Z Γ R μ Φ kc ks pc ls (v :: st) M := by
  intro p e s m args below meth c d0 H locs la hc hd0 hP hS hz hn hl
  have hcat := zv_cat hc.2.2.2.2.2.2.2.2.2.2.2.2.2.2.2.2.2.2.2
  exact lv_dup hc.1 hc.2.1 hd ((hcat v).trans hv) (k p e s m args below meth c d0 H locs la hc hd0 hP hS hz hn hl)
theorem Z_pop {v : Value} (hd : decode μ.2.2.1 pc = .ok (.pop, 1)) (hv : v.category = 1) (k : Z Γ R μ Φ kc ks (pc + 1) ls (st) M) : Z Γ R μ Φ kc ks pc ls (v :: st) M := by
  intro p e s m args below meth c d0 H locs la hc hd0 hP hS hz hn hl
  have hcat := zv_cat hc.2.2.2.2.2.2.2.2.2.2.2.2.2.2.2.2.2.2.2
  exact lv_pop hc.1 hc.2.1 hd ((hcat v).trans hv) (k p e s m args below meth c d0 H locs la hc hd0 hP hS hz hn hl)
theorem Z_dup2 {v w : Value} (hd : decode μ.2.2.1 pc = .ok (.dup2, 1)) (hv : v.category = 1) (hw : w.category = 1) (k : Z Γ R μ Φ kc ks (pc + 1) ls (v :: w :: v :: w :: st) M) : Z Γ R μ Φ kc ks pc ls (v :: w :: st) M := by
  intro p e s m args below meth c d0 H locs la hc hd0 hP hS hz hn hl
  have hcat := zv_cat hc.2.2.2.2.2.2.2.2.2.2.2.2.2.2.2.2.2.2.2
  exact lv_dup2_11 hc.1 hc.2.1 hd ((hcat v).trans hv) ((hcat w).trans hw) (k p e s m args below meth c d0 H locs la hc hd0 hP hS hz hn hl)
theorem Z_fdiv {x y : UInt32} (hd : decode μ.2.2.1 pc = .ok (.fdiv, 1)) (k : ∀ r : UInt32, alike32 r (FP.fdiv x y) = true → Z Γ R μ Φ kc ks (pc + 1) ls (.float r :: st) M) : Z Γ R μ Φ kc ks pc ls (.float y :: .float x :: st) M := by
  intro p e s m args below meth c d0 H locs la hc hd0 hP hS hz hn hl
  exact lv_fdiv_any hd0 lw_bits hc.1 hc.2.1 hd (fun r d1 hal hd1 => k r hal p e s m args below meth c d1 H locs la hc hd1 hP hS hz hn hl)
theorem Z_ddiv {x y : UInt64} (hd : decode μ.2.2.1 pc = .ok (.ddiv, 1)) (k : ∀ r : UInt64, alike64 r (FP.ddiv x y) = true → Z Γ R μ Φ kc ks (pc + 1) ls (.double r :: st) M) : Z Γ R μ Φ kc ks pc ls (.double y :: .double x :: st) M := by
  intro p e s m args below meth c d0 H locs la hc hd0 hP hS hz hn hl
  exact lv_ddiv_any hd0 lw_bits hc.1 hc.2.1 hd (fun r d1 hal hd1 => k r hal p e s m args below meth c d1 H locs la hc hd1 hP hS hz hn hl)
theorem Z_if_eq {x : Int32} {off : Int} {tgt : Nat} (hd : decode μ.2.2.1 pc = .ok (.ifCond .eq off, 3)) (ht : (pc : Int) + off = (tgt : Int)) (kt : x = 0 → Z Γ R μ Φ kc ks tgt ls st M) (kf : ¬ x = 0 → Z Γ R μ Φ kc ks (pc + 3) ls st M) : Z Γ R μ Φ kc ks pc ls (.int x :: st) M := by
  intro p e s m args below meth c d0 H locs la hc hd0 hP hS hz hn hl
  exact lv_if_eq hc.1 hc.2.1 hd ht (fun q => kt q p e s m args below meth c d0 H locs la hc hd0 hP hS hz hn hl) (fun q => kf q p e s m args below meth c d0 H locs la hc hd0 hP hS hz hn hl)
theorem Z_icmp_eq {x y : Int32} {off : Int} {tgt : Nat} (hd : decode μ.2.2.1 pc = .ok (.if_icmp .eq off, 3)) (ht : (pc : Int) + off = (tgt : Int)) (kt : x = y → Z Γ R μ Φ kc ks tgt ls st M) (kf : ¬ x = y → Z Γ R μ Φ kc ks (pc + 3) ls st M) : Z Γ R μ Φ kc ks pc ls (.int y :: .int x :: st) M := by
  intro p e s m args below meth c d0 H locs la hc hd0 hP hS hz hn hl
  exact lv_icmp_eq hc.1 hc.2.1 hd ht (fun q => kt q p e s m args below meth c d0 H locs la hc hd0 hP hS hz hn hl) (fun q => kf q p e s m args below meth c d0 H locs la hc hd0 hP hS hz hn hl)
theorem Z_if_ne {x : Int32} {off : Int} {tgt : Nat} (hd : decode μ.2.2.1 pc = .ok (.ifCond .ne off, 3)) (ht : (pc : Int) + off = (tgt : Int)) (kt : ¬ x = 0 → Z Γ R μ Φ kc ks tgt ls st M) (kf : x = 0 → Z Γ R μ Φ kc ks (pc + 3) ls st M) : Z Γ R μ Φ kc ks pc ls (.int x :: st) M := by
  intro p e s m args below meth c d0 H locs la hc hd0 hP hS hz hn hl
  exact lv_if_ne hc.1 hc.2.1 hd ht (fun q => kt q p e s m args below meth c d0 H locs la hc hd0 hP hS hz hn hl) (fun q => kf q p e s m args below meth c d0 H locs la hc hd0 hP hS hz hn hl)
theorem Z_icmp_ne {x y : Int32} {off : Int} {tgt : Nat} (hd : decode μ.2.2.1 pc = .ok (.if_icmp .ne off, 3)) (ht : (pc : Int) + off = (tgt : Int)) (kt : ¬ x = y → Z Γ R μ Φ kc ks tgt ls st M) (kf : x = y → Z Γ R μ Φ kc ks (pc + 3) ls st M) : Z Γ R μ Φ kc ks pc ls (.int y :: .int x :: st) M := by
  intro p e s m args below meth c d0 H locs la hc hd0 hP hS hz hn hl
  exact lv_icmp_ne hc.1 hc.2.1 hd ht (fun q => kt q p e s m args below meth c d0 H locs la hc hd0 hP hS hz hn hl) (fun q => kf q p e s m args below meth c d0 H locs la hc hd0 hP hS hz hn hl)
theorem Z_if_lt {x : Int32} {off : Int} {tgt : Nat} (hd : decode μ.2.2.1 pc = .ok (.ifCond .lt off, 3)) (ht : (pc : Int) + off = (tgt : Int)) (kt : x < 0 → Z Γ R μ Φ kc ks tgt ls st M) (kf : ¬ x < 0 → Z Γ R μ Φ kc ks (pc + 3) ls st M) : Z Γ R μ Φ kc ks pc ls (.int x :: st) M := by
  intro p e s m args below meth c d0 H locs la hc hd0 hP hS hz hn hl
  exact lv_if_lt hc.1 hc.2.1 hd ht (fun q => kt q p e s m args below meth c d0 H locs la hc hd0 hP hS hz hn hl) (fun q => kf q p e s m args below meth c d0 H locs la hc hd0 hP hS hz hn hl)
theorem Z_icmp_lt {x y : Int32} {off : Int} {tgt : Nat} (hd : decode μ.2.2.1 pc = .ok (.if_icmp .lt off, 3)) (ht : (pc : Int) + off = (tgt : Int)) (kt : x < y → Z Γ R μ Φ kc ks tgt ls st M) (kf : ¬ x < y → Z Γ R μ Φ kc ks (pc + 3) ls st M) : Z Γ R μ Φ kc ks pc ls (.int y :: .int x :: st) M := by
  intro p e s m args below meth c d0 H locs la hc hd0 hP hS hz hn hl
  exact lv_icmp_lt hc.1 hc.2.1 hd ht (fun q => kt q p e s m args below meth c d0 H locs la hc hd0 hP hS hz hn hl) (fun q => kf q p e s m args below meth c d0 H locs la hc hd0 hP hS hz hn hl)
theorem Z_if_ge {x : Int32} {off : Int} {tgt : Nat} (hd : decode μ.2.2.1 pc = .ok (.ifCond .ge off, 3)) (ht : (pc : Int) + off = (tgt : Int)) (kt : 0 ≤ x → Z Γ R μ Φ kc ks tgt ls st M) (kf : ¬ 0 ≤ x → Z Γ R μ Φ kc ks (pc + 3) ls st M) : Z Γ R μ Φ kc ks pc ls (.int x :: st) M := by
  intro p e s m args below meth c d0 H locs la hc hd0 hP hS hz hn hl
  exact lv_if_ge hc.1 hc.2.1 hd ht (fun q => kt q p e s m args below meth c d0 H locs la hc hd0 hP hS hz hn hl) (fun q => kf q p e s m args below meth c d0 H locs la hc hd0 hP hS hz hn hl)
theorem Z_icmp_ge {x y : Int32} {off : Int} {tgt : Nat} (hd : decode μ.2.2.1 pc = .ok (.if_icmp .ge off, 3)) (ht : (pc : Int) + off = (tgt : Int)) (kt : y ≤ x → Z Γ R μ Φ kc ks tgt ls st M) (kf : ¬ y ≤ x → Z Γ R μ Φ kc ks (pc + 3) ls st M) : Z Γ R μ Φ kc ks pc ls (.int y :: .int x :: st) M := by
  intro p e s m args below meth c d0 H locs la hc hd0 hP hS hz hn hl
  exact lv_icmp_ge hc.1 hc.2.1 hd ht (fun q => kt q p e s m args below meth c d0 H locs la hc hd0 hP hS hz hn hl) (fun q => kf q p e s m args below meth c d0 H locs la hc hd0 hP hS hz hn hl)
theorem Z_if_gt {x : Int32} {off : Int} {tgt : Nat} (hd : decode μ.2.2.1 pc = .ok (.ifCond .gt off, 3)) (ht : (pc : Int) + off = (tgt : Int)) (kt : 0 < x → Z Γ R μ Φ kc ks tgt ls st M) (kf : ¬ 0 < x → Z Γ R μ Φ kc ks (pc + 3) ls st M) : Z Γ R μ Φ kc ks pc ls (.int x :: st) M := by
  intro p e s m args below meth c d0 H locs la hc hd0 hP hS hz hn hl
  exact lv_if_gt hc.1 hc.2.1 hd ht (fun q => kt q p e s m args below meth c d0 H locs la hc hd0 hP hS hz hn hl) (fun q => kf q p e s m args below meth c d0 H locs la hc hd0 hP hS hz hn hl)
theorem Z_icmp_gt {x y : Int32} {off : Int} {tgt : Nat} (hd : decode μ.2.2.1 pc = .ok (.if_icmp .gt off, 3)) (ht : (pc : Int) + off = (tgt : Int)) (kt : y < x → Z Γ R μ Φ kc ks tgt ls st M) (kf : ¬ y < x → Z Γ R μ Φ kc ks (pc + 3) ls st M) : Z Γ R μ Φ kc ks pc ls (.int y :: .int x :: st) M := by
  intro p e s m args below meth c d0 H locs la hc hd0 hP hS hz hn hl
  exact lv_icmp_gt hc.1 hc.2.1 hd ht (fun q => kt q p e s m args below meth c d0 H locs la hc hd0 hP hS hz hn hl) (fun q => kf q p e s m args below meth c d0 H locs la hc hd0 hP hS hz hn hl)
theorem Z_if_le {x : Int32} {off : Int} {tgt : Nat} (hd : decode μ.2.2.1 pc = .ok (.ifCond .le off, 3)) (ht : (pc : Int) + off = (tgt : Int)) (kt : x ≤ 0 → Z Γ R μ Φ kc ks tgt ls st M) (kf : ¬ x ≤ 0 → Z Γ R μ Φ kc ks (pc + 3) ls st M) : Z Γ R μ Φ kc ks pc ls (.int x :: st) M := by
  intro p e s m args below meth c d0 H locs la hc hd0 hP hS hz hn hl
  exact lv_if_le hc.1 hc.2.1 hd ht (fun q => kt q p e s m args below meth c d0 H locs la hc hd0 hP hS hz hn hl) (fun q => kf q p e s m args below meth c d0 H locs la hc hd0 hP hS hz hn hl)
theorem Z_icmp_le {x y : Int32} {off : Int} {tgt : Nat} (hd : decode μ.2.2.1 pc = .ok (.if_icmp .le off, 3)) (ht : (pc : Int) + off = (tgt : Int)) (kt : x ≤ y → Z Γ R μ Φ kc ks tgt ls st M) (kf : ¬ x ≤ y → Z Γ R μ Φ kc ks (pc + 3) ls st M) : Z Γ R μ Φ kc ks pc ls (.int y :: .int x :: st) M := by
  intro p e s m args below meth c d0 H locs la hc hd0 hP hS hz hn hl
  exact lv_icmp_le hc.1 hc.2.1 hd ht (fun q => kt q p e s m args below meth c d0 H locs la hc hd0 hP hS hz hn hl) (fun q => kf q p e s m args below meth c d0 H locs la hc hd0 hP hS hz hn hl)
theorem Z_goto {off : Int} {tgt : Nat} (hd : decode μ.2.2.1 pc = .ok (.goto off, 3)) (ht : (pc : Int) + off = (tgt : Int)) (k : Z Γ R μ Φ kc ks tgt ls st M) : Z Γ R μ Φ kc ks pc ls st M := by
  intro p e s m args below meth c d0 H locs la hc hd0 hP hS hz hn hl
  exact lv_goto hc.1 hc.2.1 hd ht (k p e s m args below meth c d0 H locs la hc hd0 hP hS hz hn hl)
theorem Z_tableIn {dflt lo hi : Int} {offs : Array Int} {len : Nat} {x : Int32} {off : Int} {tgt : Nat} (hd : decode μ.2.2.1 pc = .ok (.tableswitch dflt lo hi offs, len)) (h1 : ¬ x.toInt < lo) (h2 : ¬ hi < x.toInt) (ho : offs[(x.toInt - lo).toNat]? = some off) (ht : (pc : Int) + off = (tgt : Int)) (k : Z Γ R μ Φ kc ks tgt ls st M) : Z Γ R μ Φ kc ks pc ls (.int x :: st) M := by
  intro p e s m args below meth c d0 H locs la hc hd0 hP hS hz hn hl
  exact lv_tableIn hc.1 hc.2.1 hd h1 h2 ho ht (k p e s m args below meth c d0 H locs la hc hd0 hP hS hz hn hl)
theorem Z_tableOut {dflt lo hi : Int} {offs : Array Int} {len : Nat} {x : Int32} {tgt : Nat} (hd : decode μ.2.2.1 pc = .ok (.tableswitch dflt lo hi offs, len)) (h : x.toInt < lo ∨ hi < x.toInt) (ht : (pc : Int) + dflt = (tgt : Int)) (k : Z Γ R μ Φ kc ks tgt ls st M) : Z Γ R μ Φ kc ks pc ls (.int x :: st) M := by
  intro p e s m args below meth c d0 H locs la hc hd0 hP hS hz hn hl
  exact lv_tableOut hc.1 hc.2.1 hd h ht (k p e s m args below meth c d0 H locs la hc hd0 hP hS hz hn hl)
theorem Z_ldc {index : Nat} {v : Int32} (hw : Cond.constant μ.1 index v ∈ zG) (hd : decode μ.2.2.1 pc = .ok (.ldc index, 2)) (k : Z Γ R μ Φ kc ks (pc + 2) ls (.int v :: st) M) : Z Γ R μ Φ kc ks pc ls st M := by
  intro p e s m args below meth c d0 H locs la hc hd0 hP hS hz hn hl
  exact lv_ldc hc.1 hc.2.1 hc.2.2.2.2.1 (dr_words hc.2.2.2.2.2.1 d0 _ hw) hd (k p e s m args below meth c d0 H locs la hc hd0 hP hS hz hn hl)
theorem Z_ldc2 {index : Nat} {v : Int64} (hw : Cond.constantLong μ.1 index v ∈ zG) (hd : decode μ.2.2.1 pc = .ok (.ldc2_w index, 3)) (k : Z Γ R μ Φ kc ks (pc + 3) ls (.long v :: st) M) : Z Γ R μ Φ kc ks pc ls st M := by
  intro p e s m args below meth c d0 H locs la hc hd0 hP hS hz hn hl
  exact lv_ldc2 hc.1 hc.2.1 hc.2.2.2.2.1 (dr_words hc.2.2.2.2.2.1 d0 _ hw) hd (k p e s m args below meth c d0 H locs la hc hd0 hP hS hz hn hl)
theorem Z_iload_n {i : Fin 4} {x : Int32} (hd : decode μ.2.2.1 pc = .ok (.iload_n i, 1)) (h : ls[(i : Nat)]? = some (some (.int x))) (k : Z Γ R μ Φ kc ks (pc + 1) ls (.int x :: st) M) : Z Γ R μ Φ kc ks pc ls st M := by
  intro p e s m args below meth c d0 H locs la hc hd0 hP hS hz hn hl
  exact lv_iload_n hc.1 hc.2.1 hd rfl (hl.2.2 _ _ h) (k p e s m args below meth c d0 H locs la hc hd0 hP hS hz hn hl)
theorem Z_iload {i : Nat} {x : Int32} (hd : decode μ.2.2.1 pc = .ok (.iload i, 2)) (h : ls[i]? = some (some (.int x))) (k : Z Γ R μ Φ kc ks (pc + 2) ls (.int x :: st) M) : Z Γ R μ Φ kc ks pc ls st M := by
  intro p e s m args below meth c d0 H locs la hc hd0 hP hS hz hn hl
  exact lv_iload hc.1 hc.2.1 hd (hl.2.2 _ _ h) (k p e s m args below meth c d0 H locs la hc hd0 hP hS hz hn hl)
theorem Z_lload_n {i : Fin 4} {x : Int64} (hd : decode μ.2.2.1 pc = .ok (.lload_n i, 1)) (h : ls[(i : Nat)]? = some (some (.long x))) (k : Z Γ R μ Φ kc ks (pc + 1) ls (.long x :: st) M) : Z Γ R μ Φ kc ks pc ls st M := by
  intro p e s m args below meth c d0 H locs la hc hd0 hP hS hz hn hl
  exact lv_lload_n hc.1 hc.2.1 hd rfl (hl.2.2 _ _ h) (k p e s m args below meth c d0 H locs la hc hd0 hP hS hz hn hl)
theorem Z_lload {i : Nat} {x : Int64} (hd : decode μ.2.2.1 pc = .ok (.lload i, 2)) (h : ls[i]? = some (some (.long x))) (k : Z Γ R μ Φ kc ks (pc + 2) ls (.long x :: st) M) : Z Γ R μ Φ kc ks pc ls st M := by
  intro p e s m args below meth c d0 H locs la hc hd0 hP hS hz hn hl
  exact lv_lload hc.1 hc.2.1 hd (hl.2.2 _ _ h) (k p e s m args below meth c d0 H locs la hc hd0 hP hS hz hn hl)
theorem Z_fload_n {i : Fin 4} {x : UInt32} (hd : decode μ.2.2.1 pc = .ok (.fload_n i, 1)) (h : ls[(i : Nat)]? = some (some (.float x))) (k : Z Γ R μ Φ kc ks (pc + 1) ls (.float x :: st) M) : Z Γ R μ Φ kc ks pc ls st M := by
  intro p e s m args below meth c d0 H locs la hc hd0 hP hS hz hn hl
  exact lv_fload_n hc.1 hc.2.1 hd rfl (hl.2.2 _ _ h) (k p e s m args below meth c d0 H locs la hc hd0 hP hS hz hn hl)
theorem Z_fload {i : Nat} {x : UInt32} (hd : decode μ.2.2.1 pc = .ok (.fload i, 2)) (h : ls[i]? = some (some (.float x))) (k : Z Γ R μ Φ kc ks (pc + 2) ls (.float x :: st) M) : Z Γ R μ Φ kc ks pc ls st M := by
  intro p e s m args below meth c d0 H locs la hc hd0 hP hS hz hn hl
  exact lv_fload hc.1 hc.2.1 hd (hl.2.2 _ _ h) (k p e s m args below meth c d0 H locs la hc hd0 hP hS hz hn hl)
theorem Z_dload_n {i : Fin 4} {x : UInt64} (hd : decode μ.2.2.1 pc = .ok (.dload_n i, 1)) (h : ls[(i : Nat)]? = some (some (.double x))) (k : Z Γ R μ Φ kc ks (pc + 1) ls (.double x :: st) M) : Z Γ R μ Φ kc ks pc ls st M := by
  intro p e s m args below meth c d0 H locs la hc hd0 hP hS hz hn hl
  exact lv_dload_n hc.1 hc.2.1 hd rfl (hl.2.2 _ _ h) (k p e s m args below meth c d0 H locs la hc hd0 hP hS hz hn hl)
theorem Z_dload {i : Nat} {x : UInt64} (hd : decode μ.2.2.1 pc = .ok (.dload i, 2)) (h : ls[i]? = some (some (.double x))) (k : Z Γ R μ Φ kc ks (pc + 2) ls (.double x :: st) M) : Z Γ R μ Φ kc ks pc ls st M := by
  intro p e s m args below meth c d0 H locs la hc hd0 hP hS hz hn hl
  exact lv_dload hc.1 hc.2.1 hd (hl.2.2 _ _ h) (k p e s m args below meth c d0 H locs la hc hd0 hP hS hz hn hl)
theorem Z_aload_n {i : Fin 4} {x : Nat} (hd : decode μ.2.2.1 pc = .ok (.aload_n i, 1)) (h : ls[(i : Nat)]? = some (some (.ref x))) (k : Z Γ R μ Φ kc ks (pc + 1) ls (.ref x :: st) M) : Z Γ R μ Φ kc ks pc ls st M := by
  intro p e s m args below meth c d0 H locs la hc hd0 hP hS hz hn hl
  have h1 := hl.2.2 _ _ h
  have k1 := k p e s m args below meth c d0 H locs la hc hd0 hP hS hz hn hl
  rw [List.map_cons] at k1
  rcases zv_refs hc.2.2.2.2.2.2.2.2.2.2.2.2.2.2.2.2.2.2.2 x with h2 | ⟨a, h2⟩ <;> rw [h2] at h1 k1
  · exact lv_aload_nN hc.1 hc.2.1 hd rfl h1 k1
  · exact lv_aload_n hc.1 hc.2.1 hd rfl h1 k1
theorem Z_aload {i : Nat} {x : Nat} (hd : decode μ.2.2.1 pc = .ok (.aload i, 2)) (h : ls[i]? = some (some (.ref x))) (k : Z Γ R μ Φ kc ks (pc + 2) ls (.ref x :: st) M) : Z Γ R μ Φ kc ks pc ls st M := by
  intro p e s m args below meth c d0 H locs la hc hd0 hP hS hz hn hl
  have h1 := hl.2.2 _ _ h
  have k1 := k p e s m args below meth c d0 H locs la hc hd0 hP hS hz hn hl
  rw [List.map_cons] at k1
  rcases zv_refs hc.2.2.2.2.2.2.2.2.2.2.2.2.2.2.2.2.2.2.2 x with h2 | ⟨a, h2⟩ <;> rw [h2] at h1 k1
  · exact lv_aloadN hc.1 hc.2.1 hd h1 k1
  · exact lv_aload hc.1 hc.2.1 hd h1 k1
theorem Z_istore_n {i : Fin 4} {x : Int32} (hd : decode μ.2.2.1 pc = .ok (.istore_n i, 1)) (hi : (i : Nat) < μ.2.2.2.1) (k : Z Γ R μ Φ kc ks (pc + 1) (zSt1 ls (i : Nat) (.int x)) st M) : Z Γ R μ Φ kc ks pc ls (.int x :: st) M := by
  intro p e s m args below meth c d0 H locs la hc hd0 hP hS hz hn hl
  exact lv_istore_n hc.1 hc.2.1 hd rfl (zLs_has hl) hi rfl (fun la1 hl1 => k p e s m args below meth c d0 H locs la1 hc hd0 hP hS hz hn (zSt1_ok hc.2.2.2.2.2.2.2.2.2.2.2.2.2.2.2.2.2.2.2 (by rfl) hl1))
theorem Z_istore {i : Nat} {x : Int32} (hd : decode μ.2.2.1 pc = .ok (.istore i, 2)) (hi : i < μ.2.2.2.1) (k : Z Γ R μ Φ kc ks (pc + 2) (zSt1 ls i (.int x)) st M) : Z Γ R μ Φ kc ks pc ls (.int x :: st) M := by
  intro p e s m args below meth c d0 H locs la hc hd0 hP hS hz hn hl
  exact lv_istore hc.1 hc.2.1 hd (zLs_has hl) hi rfl (fun la1 hl1 => k p e s m args below meth c d0 H locs la1 hc hd0 hP hS hz hn (zSt1_ok hc.2.2.2.2.2.2.2.2.2.2.2.2.2.2.2.2.2.2.2 (by rfl) hl1))
theorem Z_lstore_n {i : Fin 4} {x : Int64} (hd : decode μ.2.2.1 pc = .ok (.lstore_n i, 1)) (hi : (i : Nat) + 1 < μ.2.2.2.1) (k : Z Γ R μ Φ kc ks (pc + 1) (zSt2 ls (i : Nat) (.long x)) st M) : Z Γ R μ Φ kc ks pc ls (.long x :: st) M := by
  intro p e s m args below meth c d0 H locs la hc hd0 hP hS hz hn hl
  exact lv_lstore_n hc.1 hc.2.1 hd rfl (zLs_has hl) hi rfl (fun la1 hl1 => k p e s m args below meth c d0 H locs la1 hc hd0 hP hS hz hn (zSt2_ok hc.2.2.2.2.2.2.2.2.2.2.2.2.2.2.2.2.2.2.2 (by rfl) hl1))
theorem Z_lstore {i : Nat} {x : Int64} (hd : decode μ.2.2.1 pc = .ok (.lstore i, 2)) (hi : i + 1 < μ.2.2.2.1) (k : Z Γ R μ Φ kc ks (pc + 2) (zSt2 ls i (.long x)) st M) : Z Γ R μ Φ kc ks pc ls (.long x :: st) M := by
  intro p e s m args below meth c d0 H locs la hc hd0 hP hS hz hn hl
  exact lv_lstore hc.1 hc.2.1 hd (zLs_has hl) hi rfl (fun la1 hl1 => k p e s m args below meth c d0 H locs la1 hc hd0 hP hS hz hn (zSt2_ok hc.2.2.2.2.2.2.2.2.2.2.2.2.2.2.2.2.2.2.2 (by rfl) hl1))
theorem Z_astore_n {i : Fin 4} {x : Nat} (hd : decode μ.2.2.1 pc = .ok (.astore_n i, 1)) (hi : (i : Nat) < μ.2.2.2.1) (k : Z Γ R μ Φ kc ks (pc + 1) (zSt1 ls (i : Nat) (.ref x)) st M) : Z Γ R μ Φ kc ks pc ls (.ref x :: st) M := by
  intro p e s m args below meth c d0 H locs la hc hd0 hP hS hz hn hl
  have hs := hc.2.2.2.2.2.2.2.2.2.2.2.2.2.2.2.2.2.2.2
  rw [List.map_cons]
  rcases zv_refs hs x with h2 | ⟨a, h2⟩ <;> rw [h2]
  · exact lv_astore_nN hc.1 hc.2.1 hd rfl (zLs_has hl) hi rfl (fun la1 hl1 => k p e s m args below meth c d0 H locs la1 hc hd0 hP hS hz hn (zSt1_ok hs (v := .ref x) h2 hl1))
  · exact lv_astore_n hc.1 hc.2.1 hd rfl (zLs_has hl) hi rfl (fun la1 hl1 => k p e s m args below meth c d0 H locs la1 hc hd0 hP hS hz hn (zSt1_ok hs (v := .ref x) h2 hl1))
theorem Z_astore {i : Nat} {x : Nat} (hd : decode μ.2.2.1 pc = .ok (.astore i, 2)) (hi : i < μ.2.2.2.1) (k : Z Γ R μ Φ kc ks (pc + 2) (zSt1 ls i (.ref x)) st M) : Z Γ R μ Φ kc ks pc ls (.ref x :: st) M := by
  intro p e s m args below meth c d0 H locs la hc hd0 hP hS hz hn hl
  have hs := hc.2.2.2.2.2.2.2.2.2.2.2.2.2.2.2.2.2.2.2
  rw [List.map_cons]
  rcases zv_refs hs x with h2 | ⟨a, h2⟩ <;> rw [h2]
  · exact lv_astoreN hc.1 hc.2.1 hd (zLs_has hl) hi rfl (fun la1 hl1 => k p e s m args below meth c d0 H locs la1 hc hd0 hP hS hz hn (zSt1_ok hs (v := .ref x) h2 hl1))
  · exact lv_astore hc.1 hc.2.1 hd (zLs_has hl) hi rfl (fun la1 hl1 => k p e s m args below meth c d0 H locs la1 hc hd0 hP hS hz hn (zSt1_ok hs (v := .ref x) h2 hl1))
theorem Z_iinc {i : Nat} {n : Int} {x : Int32} (hd : decode μ.2.2.1 pc = .ok (.iinc i n, 3)) (h : ls[i]? = some (some (.int x))) (hi : i < μ.2.2.2.1) (k : Z Γ R μ Φ kc ks (pc + 3) (zSt1 ls i (.int (x + Int32.ofInt n))) st M) : Z Γ R μ Φ kc ks pc ls st M := by
  intro p e s m args below meth c d0 H locs la hc hd0 hP hS hz hn hl
  obtain ⟨j, hj⟩ := List.getElem?_of_mem (zPr_mem (Γ := Γ) h)
  exact lv_iinc hc.1 hc.2.1 hd (zLs_has hl) hj rfl hi rfl (fun la1 hl1 => k p e s m args below meth c d0 H locs la1 hc hd0 hP hS hz hn (zSt1_ok hc.2.2.2.2.2.2.2.2.2.2.2.2.2.2.2.2.2.2.2 (by rfl) hl1))
end ZR
end
section
/-! rules over cells -/
/-- what the tables say of a class of the world: its words, its fields' types, its fields' names -/
def zCk (ci : Nat) : Prop := ∀ (C : String) (T : u_T) (N : Nat), zCl[ci]? = some (C, T, N) → (∀ w ∈ u_ws C T N, w ∈ zG) ∧ (∀ k, k < N → parseFieldDescriptor (T k).2.2.1 = some (zTt ci k)) ∧ (∀ a, a < N → ∀ b, b < N → a ≠ b → (T a).2.1 ≠ (T b).2.1) ∧ (∀ k, k < N → (T k).1 = C) ∧ Cond.instantiable C N ∈ zG ∧ Cond.initialized C ∈ zG
/-- a field's link: from class own, entry idx, to field j of class ci -/
def zFl (own : String) (idx ci j : Nat) : Prop := zCk ci ∧ ∃ (C : String) (T : u_T) (N : Nat), zCl[ci]? = some (C, T, N) ∧ j < N ∧ (Cond.fieldLink own idx C (T j).2.1 (T j).2.2.1 ∈ zG ∨ ∃ host, Cond.fieldLinkNest own idx C (T j).2.1 (T j).2.2.1 host ∈ zN)
def zFn (ci j : Nat) : Bool := match zCl[ci]? with
  | some q => (q.2.1 j).2.2.2
  | none => true
section ZH
variable {Γ : zCtx} {R : Room} {μ : zMe} {Φ : zPhi} {kc ks pc : Nat} {ls : List (Option Value)} {st : List Value} {M : List zE}
theorem Z_get {idx ci j k : Nat} {fs : List Value} {v : Value} (hd : decode μ.2.2.1 pc = .ok (.getfield idx, 3)) (hf : zFl μ.1 idx ci j) (hM : M[k]? = some (.inr (ci, fs))) (hv : fs[j]? = some v) (kk : Z Γ R μ Φ kc ks (pc + 3) ls (v :: st) M) : Z Γ R μ Φ kc ks pc ls (.ref k :: st) M := by
  intro p e s m args below meth c d0 H locs la hc hd0 hP hS hz hn hl
  have hk : k < 1000000 := Nat.lt_of_lt_of_le (z_lt hM) hn
  have k1 := kk p e s m args below meth c d0 H locs la hc hd0 hP hS hz hn hl
  obtain ⟨hx, hb, hr, hml, hown, hts, hlk, hnm, hkb⟩ := hc
  obtain ⟨hck, C, T, N, hcl, hj, hlink⟩ := hf
  obtain ⟨c1, c2, c3, c4, c5, c6⟩ := hck C T N hcl
  rw [List.map_cons, zv_ref hk]
  have hP1 := hP
  have hv2 : (fs.map (zv Γ))[j]? = some (zv Γ v) := by rw [List.getElem?_map, hv]; rfl
  rcases hlink with h | ⟨host, h⟩
  · exact va_get (s := s.setDrawn d0) (own := μ.1) hx hb (dr_words hts d0) c1 hown hkb.1 hP k (zw_get hM) hcl j hj (dr_words hts d0 _ h) (fun x q => by rw [c4 j hj] at q; exact q) hv2 hd k1
  · exact va_getN (s := s.setDrawn d0) (own := μ.1) hx hb (dr_words hts d0) c1 hown hkb.1 hP k (zw_get hM) hcl j hj ((Cond.before_setDrawn args s d0 _).trans (va_Nw.use rfl (hkb.2.1 _ h))) (fun x q => by rw [c4 j hj] at q; exact q) hv2 hd k1
theorem Z_put {idx ci j k : Nat} {fs : List Value} {v : Value} (hd : decode μ.2.2.1 pc = .ok (.putfield idx, 3)) (hf : zFl μ.1 idx ci j) (hM : M[k]? = some (.inr (ci, fs))) (hfin : zFn ci j = false) (hvv : zv Γ v = v) (hnr : narrow (zTt ci j) v = v) (hft : fits (zTt ci j) v = true) (hj : j < fs.length) (kk : Z Γ R μ Φ kc ks (pc + 3) ls st (M.set k (.inr (ci, fs.set j v)))) : Z Γ R μ Φ kc ks pc ls (v :: .ref k :: st) M := by
  intro p e s m args below meth c d0 H locs la hc hd0 hP hS hz hn hl
  have hk : k < 1000000 := Nat.lt_of_lt_of_le (z_lt hM) hn
  have k1 := fun H1 locs1 hP1 hS1 => kk p e s m args below meth c d0 H1 locs1 la hc hd0 hP1 hS1 (by rw [List.length_set]; exact hz) (by rw [List.length_set]; exact hn) hl
  obtain ⟨hx, hb, hr, hml, hown, hts, hlk, hnm, hkb⟩ := hc
  obtain ⟨hck, C, T, N, hcl, hjN, hlink⟩ := hf
  obtain ⟨c1, c2, c3, c4, c5, c6⟩ := hck C T N hcl
  have hfin2 : (T j).2.2.2 = false := by
    have h := hfin
    unfold zFn at h
    rw [hcl] at h
    exact h
  rw [List.map_cons, List.map_cons, zv_ref hk, hvv]
  have e1 : zw Γ (M.set k (.inr (ci, fs.set j v))) = (zw Γ M).set k (zSz Γ + k, .inr (ci, (fs.map (zv Γ)).set j v)) := by
    rw [zw_set]
    show (zw Γ M).set k (zSz Γ + k, .inr (ci, (fs.set j v).map (zv Γ))) = _
    rw [List.map_set, hvv]
  rcases hlink with h | ⟨host, h⟩
  · exact va_put (s := s.setDrawn d0) (own := μ.1) (ref := C) hx hb (dr_words hts d0) c1 (zTt ci) c2 c3 hown hkb.1 hP (zw_D Γ M) hS k (zw_get hM) hcl j hjN (dr_words hts d0 _ h) (fun x q => by rw [c4 j hjN] at q; exact q) hfin2 (c2 j hjN) hnr hft (by rw [List.length_map]; exact hj) hd (fun H1 locs1 hP1 hD1 hS1 => k1 H1 locs1 (by rw [e1]; exact hP1) hS1)
  · exact va_putN (s := s.setDrawn d0) (own := μ.1) (ref := C) hx hb (dr_words hts d0) c1 (zTt ci) c2 c3 hown hkb.1 hP (zw_D Γ M) hS k (zw_get hM) hcl j hjN ((Cond.before_setDrawn args s d0 _).trans (va_Nw.use rfl (hkb.2.1 _ h))) (fun x q => by rw [c4 j hjN] at q; exact q) hfin2 (c2 j hjN) hnr hft (by rw [List.length_map]; exact hj) hd (fun H1 locs1 hP1 hD1 hS1 => k1 H1 locs1 (by rw [e1]; exact hP1) hS1)
theorem Z_puti {idx ci j k : Nat} {fs : List Value} {x : Int32} (hd : decode μ.2.2.1 pc = .ok (.putfield idx, 3)) (hf : zFl μ.1 idx ci j) (hM : M[k]? = some (.inr (ci, fs))) (hfin : zFn ci j = false) (hty : zTt ci j = .int) (hj : j < fs.length) (kk : Z Γ R μ Φ kc ks (pc + 3) ls st (M.set k (.inr (ci, fs.set j (.int x))))) : Z Γ R μ Φ kc ks pc ls (.int x :: .ref k :: st) M :=
  Z_put hd hf hM hfin rfl (by rw [hty]; rfl) (by rw [hty]; rfl) hj kk
theorem Z_putz {idx ci j k : Nat} {fs : List Value} {x : Int32} (hd : decode μ.2.2.1 pc = .ok (.putfield idx, 3)) (hf : zFl μ.1 idx ci j) (hM : M[k]? = some (.inr (ci, fs))) (hfin : zFn ci j = false) (hty : zTt ci j = .boolean) (hx : x = 0 ∨ x = 1) (hj : j < fs.length) (kk : Z Γ R μ Φ kc ks (pc + 3) ls st (M.set k (.inr (ci, fs.set j (.int x))))) : Z Γ R μ Φ kc ks pc ls (.int x :: .ref k :: st) M :=
  Z_put hd hf hM hfin rfl (by rw [hty]; rcases hx with rfl | rfl <;> rfl) (by rw [hty]; rcases hx with rfl | rfl <;> rfl) hj kk
/-- a final field, in a constructor: a reference -/
theorem Z_putF {idx ci j k r : Nat} {fs : List Value} (hd : decode μ.2.2.1 pc = .ok (.putfield idx, 3)) (hf : zFl μ.1 idx ci j) (hM : M[k]? = some (.inr (ci, fs))) (hfin : zFn ci j = true) (hin : μ.2.1.name = "<init>") (hown0 : ∀ C T N, zCl[ci]? = some (C, T, N) → C = μ.1) (hty : (∃ t, zTt ci j = .object t) ∨ ∃ t, zTt ci j = .array t) (hpl : ∀ C T N, zCl[ci]? = some (C, T, N) → Cond.fieldLink μ.1 idx C (T j).2.1 (T j).2.2.1 ∈ zG) (hr : r < 1000000) (hj : j < fs.length) (kk : Z Γ R μ Φ kc ks (pc + 3) ls st (M.set k (.inr (ci, fs.set j (.ref r))))) : Z Γ R μ Φ kc ks pc ls (.ref r :: .ref k :: st) M := by
  intro p e s m args below meth c d0 H locs la hc hd0 hP hS hz hn hl
  have hk : k < 1000000 := Nat.lt_of_lt_of_le (z_lt hM) hn
  have k1 := fun H1 locs1 hP1 hS1 => kk p e s m args below meth c d0 H1 locs1 la hc hd0 hP1 hS1 (by rw [List.length_set]; exact hz) (by rw [List.length_set]; exact hn) hl
  obtain ⟨hx, hb, hrt, hml, hown, hts, hlk, hnm, hkb⟩ := hc
  obtain ⟨hck, C, T, N, hcl, hjN, -⟩ := hf
  obtain ⟨c1, c2, c3, c4, c5, c6⟩ := hck C T N hcl
  have hfin2 : (T j).2.2.2 = true := by
    have h := hfin
    unfold zFn at h
    rw [hcl] at h
    exact h
  rw [List.map_cons, List.map_cons, zv_ref hk, zv_ref hr]
  have e1 : zw Γ (M.set k (.inr (ci, fs.set j (.ref r)))) = (zw Γ M).set k (zSz Γ + k, .inr (ci, (fs.map (zv Γ)).set j (.ref (zSz Γ + r)))) := by
    rw [zw_set]
    show (zw Γ M).set k (zSz Γ + k, .inr (ci, (fs.set j (.ref r)).map (zv Γ))) = _
    rw [List.map_set, zv_ref hr]
  exact va_putF (s := s.setDrawn d0) (own := μ.1) (ref := C) hx hb (dr_words hts d0) c1 (zTt ci) c2 c3 hown hkb.1 hP (zw_D Γ M) hS k (zw_get hM) hcl j hjN (dr_words hts d0 _ (hpl C T N hcl)) (fun x q => by rw [c4 j hjN] at q; exact q) hfin2 (by rw [hnm]; exact hin) (by rw [c4 j hjN]; exact hown0 C T N hcl) (c2 j hjN) (by rcases hty with ⟨t, h⟩ | ⟨t, h⟩ <;> rw [h] <;> rfl) (by rcases hty with ⟨t, h⟩ | ⟨t, h⟩ <;> rw [h] <;> rfl) (by rw [List.length_map]; exact hj) hd (fun H1 locs1 hP1 hD1 hS1 => k1 H1 locs1 (by rw [e1]; exact hP1) hS1)
theorem Z_iald {k n : Nat} {f : Nat → Int32} {i : Int32} (hd : decode μ.2.2.1 pc = .ok (.iaload, 1)) (hM : M[k]? = some (.inl (0, n, .inl f))) (hin : vp_in i n) (kk : Z Γ R μ Φ kc ks (pc + 1) ls (.int (f i.toNatClampNeg) :: st) M) : Z Γ R μ Φ kc ks pc ls (.int i :: .ref k :: st) M := by
  intro p e s m args below meth c d0 H locs la hc hd0 hP hS hz hn hl
  have hk : k < 1000000 := Nat.lt_of_lt_of_le (z_lt hM) hn
  rw [List.map_cons, List.map_cons, zv_ref hk]
  exact va_iald (s := s.setDrawn d0) hc.1 hc.2.1 hc.2.2.2.2.2.2.2.2.1 hP k 0 (zw_get hM) rfl hin hd (kk p e s m args below meth c d0 H locs la hc hd0 hP hS hz hn hl)
theorem Z_lald {k n : Nat} {f : Nat → Int64} {i : Int32} (hd : decode μ.2.2.1 pc = .ok (.laload, 1)) (hM : M[k]? = some (.inl (1, n, .inr (.inl f)))) (hin : vp_in i n) (kk : Z Γ R μ Φ kc ks (pc + 1) ls (.long (f i.toNatClampNeg) :: st) M) : Z Γ R μ Φ kc ks pc ls (.int i :: .ref k :: st) M := by
  intro p e s m args below meth c d0 H locs la hc hd0 hP hS hz hn hl
  have hk : k < 1000000 := Nat.lt_of_lt_of_le (z_lt hM) hn
  rw [List.map_cons, List.map_cons, zv_ref hk]
  exact va_lald (s := s.setDrawn d0) hc.1 hc.2.1 hc.2.2.2.2.2.2.2.2.1 hP k 1 (zw_get hM) rfl hin hd (kk p e s m args below meth c d0 H locs la hc hd0 hP hS hz hn hl)
theorem Z_zald {k n : Nat} {f : Nat → Int32} {i : Int32} (hd : decode μ.2.2.1 pc = .ok (.baload, 1)) (hM : M[k]? = some (.inl (2, n, .inl f))) (hin : vp_in i n) (kk : Z Γ R μ Φ kc ks (pc + 1) ls (.int (f i.toNatClampNeg) :: st) M) : Z Γ R μ Φ kc ks pc ls (.int i :: .ref k :: st) M := by
  intro p e s m args below meth c d0 H locs la hc hd0 hP hS hz hn hl
  have hk : k < 1000000 := Nat.lt_of_lt_of_le (z_lt hM) hn
  rw [List.map_cons, List.map_cons, zv_ref hk]
  exact va_zald (s := s.setDrawn d0) hc.1 hc.2.1 hc.2.2.2.2.2.2.2.2.1 hP k 2 (zw_get hM) rfl hin hd (kk p e s m args below meth c d0 H locs la hc hd0 hP hS hz hn hl)
theorem Z_aald {k n r : Nat} {f : Nat → Option Nat} {i : Int32} (hd : decode μ.2.2.1 pc = .ok (.aaload, 1)) (hM : M[k]? = some (.inl (3, n, .inr (.inr (.inr (.inr f)))))) (hin : vp_in i n) (hr : f i.toNatClampNeg = some r) (hr2 : r < 1000000) (kk : Z Γ R μ Φ kc ks (pc + 1) ls (.ref r :: st) M) : Z Γ R μ Φ kc ks pc ls (.int i :: .ref k :: st) M := by
  intro p e s m args below meth c d0 H locs la hc hd0 hP hS hz hn hl
  have hk : k < 1000000 := Nat.lt_of_lt_of_le (z_lt hM) hn
  have k1 := kk p e s m args below meth c d0 H locs la hc hd0 hP hS hz hn hl
  rw [List.map_cons, zv_ref hr2] at k1
  rw [List.map_cons, List.map_cons, zv_ref hk]
  have hlt : i.toNatClampNeg < n := Nat.not_le.mp fun q => hin (Or.inr q)
  have hK := hc.2.2.2.2.2.2.2.2.1
  have hcell : H[zSz Γ + k]? = some (arrV (zAr Γ 3) n (fun j => va_rf ((f j).map (fun k => zSz Γ + k)))) := hP k _ (zw_get hM)
  have harr : (s.setDrawn d0).isArrayOf (arrV (zAr Γ 3) n (fun j => va_rf ((f j).map (fun k => zSz Γ + k)))) (.array .int) := (hK.2 3 _ rfl).1 n _
  have hval : (arrV (zAr Γ 3) n (fun j => va_rf ((f j).map (fun k => zSz Γ + k)))).slots[i.toNatClampNeg]? = some (.ref (zSz Γ + r)) := by rw [arrV_read _ _ hlt, hr]; rfl
  exact W.aald (s := s.setDrawn d0) (g := F0 m pc la (.int i :: .ref (zSz Γ + k) :: st.map (zv Γ))) hc.1 hc.2.1 hcell harr rfl (fun q => by cases q) (by rw [arrV_size]; exact hin) hval rfl rfl hd k1
theorem Z_alen {k t : Nat} {x : vp_A} (hd : decode μ.2.2.1 pc = .ok (.arraylength, 1)) (hM : M[k]? = some (.inl (t, x))) (ht : t < 3) (hx : ∀ f, x.2 ≠ .inr (.inr (.inr (.inr f)))) (kk : Z Γ R μ Φ kc ks (pc + 1) ls (.int (Int32.ofNat x.1) :: st) M) : Z Γ R μ Φ kc ks pc ls (.ref k :: st) M := by
  intro p e s m args below meth c d0 H locs la hc hd0 hP hS hz hn hl
  have hk : k < 1000000 := Nat.lt_of_lt_of_le (z_lt hM) hn
  rw [List.map_cons, zv_ref hk]
  have h1 : zc Γ (.inl (t, x)) = .inl (zAr Γ t, x) := by
    obtain ⟨n, f | f | f | f | f⟩ := x
    · rfl
    · rfl
    · rfl
    · rfl
    · exact absurd rfl (hx f)
  have h2 : (zTys Γ)[t]? = some (zAr Γ t, zTy t) := by
    match t, ht with
    | 0, _ => rfl
    | 1, _ => rfl
    | 2, _ => rfl
  exact va_alen (s := s.setDrawn d0) hc.1 hc.2.1 hc.2.2.2.2.2.2.2.2.1 hP k t (x := x) (by rw [zw_get hM, h1]) h2 rfl hd (kk p e s m args below meth c d0 H locs la hc hd0 hP hS hz hn hl)
theorem Z_iast {k n : Nat} {f : Nat → Int32} {i x : Int32} (hd : decode μ.2.2.1 pc = .ok (.iastore, 1)) (hM : M[k]? = some (.inl (0, n, .inl f))) (hin : vp_in i n) (kk : Z Γ R μ Φ kc ks (pc + 1) ls st (M.set k (.inl (0, n, .inl (upd f i.toNatClampNeg x))))) : Z Γ R μ Φ kc ks pc ls (.int x :: .int i :: .ref k :: st) M := by
  intro p e s m args below meth c d0 H locs la hc hd0 hP hS hz hn hl
  have hk : k < 1000000 := Nat.lt_of_lt_of_le (z_lt hM) hn
  rw [List.map_cons, List.map_cons, List.map_cons, zv_ref hk]
  exact va_iast (s := s.setDrawn d0) hc.1 hc.2.1 hc.2.2.2.2.2.2.2.2.1 hP (zw_D Γ M) hS k 0 (zw_get hM) rfl hin hd (fun H1 locs1 hP1 hD1 hS1 => kk p e s m args below meth c d0 H1 locs1 la hc hd0 (by rw [zw_set]; exact hP1) hS1 (by rw [List.length_set]; exact hz) (by rw [List.length_set]; exact hn) hl)
theorem Z_last {k n : Nat} {f : Nat → Int64} {i : Int32} {x : Int64} (hd : decode μ.2.2.1 pc = .ok (.lastore, 1)) (hM : M[k]? = some (.inl (1, n, .inr (.inl f)))) (hin : vp_in i n) (kk : Z Γ R μ Φ kc ks (pc + 1) ls st (M.set k (.inl (1, n, .inr (.inl (vp_updL f i.toNatClampNeg x)))))) : Z Γ R μ Φ kc ks pc ls (.long x :: .int i :: .ref k :: st) M := by
  intro p e s m args below meth c d0 H locs la hc hd0 hP hS hz hn hl
  have hk : k < 1000000 := Nat.lt_of_lt_of_le (z_lt hM) hn
  rw [List.map_cons, List.map_cons, List.map_cons, zv_ref hk]
  exact va_last (s := s.setDrawn d0) hc.1 hc.2.1 hc.2.2.2.2.2.2.2.2.1 hP (zw_D Γ M) hS k 1 (zw_get hM) rfl hin hd (fun H1 locs1 hP1 hD1 hS1 => kk p e s m args below meth c d0 H1 locs1 la hc hd0 (by rw [zw_set]; exact hP1) hS1 (by rw [List.length_set]; exact hz) (by rw [List.length_set]; exact hn) hl)
theorem Z_zast {k n : Nat} {f : Nat → Int32} {i x : Int32} (hd : decode μ.2.2.1 pc = .ok (.bastore, 1)) (hM : M[k]? = some (.inl (2, n, .inl f))) (hin : vp_in i n) (hx : x = 0 ∨ x = 1) (kk : Z Γ R μ Φ kc ks (pc + 1) ls st (M.set k (.inl (2, n, .inl (upd f i.toNatClampNeg x))))) : Z Γ R μ Φ kc ks pc ls (.int x :: .int i :: .ref k :: st) M := by
  intro p e s m args below meth c d0 H locs la hc hd0 hP hS hz hn hl
  have hk : k < 1000000 := Nat.lt_of_lt_of_le (z_lt hM) hn
  rw [List.map_cons, List.map_cons, List.map_cons, zv_ref hk]
  have hnar : vp_nar .boolean x = x := by rcases hx with rfl | rfl <;> rfl
  exact va_zast (s := s.setDrawn d0) hc.1 hc.2.1 hc.2.2.2.2.2.2.2.2.1 hP (zw_D Γ M) hS k 2 (zw_get hM) rfl hin hd (fun H1 locs1 hP1 hD1 hS1 => kk p e s m args below meth c d0 H1 locs1 la hc hd0 (by rw [zw_set]; rw [hnar] at hP1; exact hP1) hS1 (by rw [List.length_set]; exact hz) (by rw [List.length_set]; exact hn) hl)
/-- the script -/
theorem Z_sld {L : Nat} {xs : Nat → Int32} {i : Int32} (hd : decode μ.2.2.1 pc = .ok (.iaload, 1)) (hs : (zScr Γ).2 = (L, xs)) (hin : vp_in i L) (kk : Z Γ R μ Φ kc ks (pc + 1) ls (.int (xs i.toNatClampNeg) :: st) M) : Z Γ R μ Φ kc ks pc ls (.int i :: .ref 1000000 :: st) M := by
  intro p e s m args below meth c d0 H locs la hc hd0 hP hS hz hn hl
  have k1 := kk p e s m args below meth c d0 H locs la hc hd0 hP hS hz hn hl
  obtain ⟨hx, hb, hr, hml, hown, hts, hlk, hnm, h1, h2, h3, h4, h5, h6, h7, h8, h9, h10, h11⟩ := hc
  have e0 : zv Γ (.ref 1000000) = .ref (zScr Γ).1 := h10
  rw [List.map_cons, List.map_cons, e0]
  rw [hs] at h5
  exact va_sld (s := s.setDrawn d0) hx hb h5 (Nat.lt_of_lt_of_le h8 h9) (Nat.not_le.mpr h8) hS hin hd k1
theorem Z_slen {L : Nat} {xs : Nat → Int32} (hd : decode μ.2.2.1 pc = .ok (.arraylength, 1)) (hs : (zScr Γ).2 = (L, xs)) (kk : Z Γ R μ Φ kc ks (pc + 1) ls (.int (Int32.ofNat L) :: st) M) : Z Γ R μ Φ kc ks pc ls (.ref 1000000 :: st) M := by
  intro p e s m args below meth c d0 H locs la hc hd0 hP hS hz hn hl
  have k1 := kk p e s m args below meth c d0 H locs la hc hd0 hP hS hz hn hl
  obtain ⟨hx, hb, hr, hml, hown, hts, hlk, hnm, h1, h2, h3, h4, h5, h6, h7, h8, h9, h10, h11⟩ := hc
  have e0 : zv Γ (.ref 1000000) = .ref (zScr Γ).1 := h10
  rw [List.map_cons, e0]
  rw [hs] at h5
  exact va_slen (s := s.setDrawn d0) hx hb h5 (Nat.lt_of_lt_of_le h8 h9) (Nat.not_le.mpr h8) hS hd k1
end ZH
end
section
/-! contracts: entry, ends, calls -/
def zMk (μ : zMe) : Prop := Cond.code μ.2.1 μ.2.2.1 μ.2.2.2.1 μ.2.2.2.2.1 ∈ zG ∧ Cond.initialized μ.2.1.cls ∈ zG ∧ plainFor μ.2.1 = true ∧ (μ.2.1.cls ≠ "java/lang/invoke/MethodHandle" ∧ μ.2.1.cls ≠ "java/lang/invoke/VarHandle") ∧ μ.2.1.cls = μ.1 ∧ μ.2.2.2.1 ≤ 45
def zLk (own : String) (idx n : Nat) (μ : zMe) : Prop := zMk μ ∧ (parseMethodDescriptor μ.2.1.desc).map (fun d => d.parameters.length) = some n ∧ (Cond.methodLink own idx μ.2.1 ∈ zG ∨ ∃ host, Cond.methodLinkNest own idx μ.2.1 host ∈ zN)
def zLv (own : String) (idx n : Nat) (μ : zMe) : Prop := zLk own idx n μ ∧ Cond.instanceMethod μ.2.1 ∈ zG ∧ Cond.selects μ.2.1.cls μ.2.1 μ.2.1 ∈ zG
def zLt (own : String) (idx n : Nat) (μ : zMe) : Prop := zLk own idx n μ ∧ Cond.static μ.2.1 ∈ zG
def zLi (own : String) (idx n : Nat) (μ : zMe) : Prop := zLk own idx n μ ∧ Cond.instanceMethod μ.2.1 ∈ zG ∧ μ.2.1.name = "<init>" ∧ μ.2.2.2.2.1 = none
section ZC
variable {Γ : zCtx} {R : Room} {μ : zMe} {Φ : zPhi} {kc ks pc : Nat} {ls : List (Option Value)} {st : List Value} {M : List zE}
theorem zPc_blind (Γ : zCtx) (args : List Value) (M : List zE) : FrameBlind (zPc Γ args M) := by
  intro a U g mk h
  obtain ⟨h1, h2, h3, h4, h5⟩ := h
  exact ⟨h1, h2.to (u := U) (U := U.calling g mk a) (State.WarmedH.refl U) (fun q _ _ => rfl) h2.2.2.2.2.2.2.2.2.1, h3, h4, h5⟩
theorem ZM.of {d : Nat} {args : List Value} {Q : List zE → Option Value → Prop} (hk : zMk μ) (hlen : (zEn args).length ≤ μ.2.2.2.1) (h : Z Γ (zRm d μ) μ (zPh Γ μ Q) 0 0 0 (zEn args) [] M) : ZM Γ d μ args M Q := by
  obtain ⟨hk1, hk2, hk3, hk4, hk5, hk6⟩ := hk
  unfold ZM MetD
  refine MetFree.of_bodySF (code := μ.2.2.1) (maxLocals := μ.2.2.2.1) (ret := μ.2.2.2.2.1) hk3 (fun av s m hpre hnm => ?_) (fun p e s m av below meth c s₁ B hml hv _ => ?_)
  · have hme := Cond.code_spec hnm (atoms_spec (ws := zWs μ) hpre (.code μ.2.1 μ.2.2.1 μ.2.2.2.1 μ.2.2.2.2.1) (by unfold zWs; simp))
    obtain ⟨me, co, hm1, hm2, hm3, hm4, hm5, hm6, _⟩ := hme
    exact ⟨me, co, hm1, hm2, hm3, hm4, hm5, hm6⟩
  · obtain ⟨rfl, hkb, hP, hsz, hn⟩ := hv
    have hts := atoms_spec (ws := zWs μ) B.pre
    have hown : s.vm.findClass μ.1 = some m.cls := by rw [← hk5]; exact findClass_of_methodNamed B.named
    have hs := hkb.2.2.2.2.2.2.2.2.2.2.2
    rw [lg_entry_eq]
    have hl := lv_entry (args.map (zv Γ)) (n := μ.2.2.2.1) (by rw [zEn_len hs]; exact hlen)
    have hz := h p e s m _ below meth c s.drawn s.heap [] _ ⟨B.exec, B.bytes, B.returns, hml, hown, fun w hw => hts w (List.mem_cons_of_mem _ hw), B.notSynchronized, (name_of_methodNamed B.named B.method).1, hkb⟩ (Drawn.sameBut.refl _ _) hP va_S.rf (by rw [hsz]; rfl) hn ⟨hl.1, hl.2.1, fun i v hi => by
      have h1 := zEn_args hs args 0 i v hi
      rw [Nat.zero_add] at h1
      exact hl.2.2 _ h1⟩
    have hend := hz s₁ (by rw [B.state]; rfl) (Stand.of_body B)
    obtain ⟨u, hgo, dr, hdr, oc, hrun, hout, hans, hfr⟩ := hend
    exact ⟨u, oc, hgo, hrun, hout, dr, hdr, hans, hfr⟩
theorem Z_iret {Q : List zE → Option Value → Prop} {x : Int32} (hd : decode μ.2.2.1 pc = .ok (.ireturn, 1)) (hr : μ.2.2.2.2.1 = some .int) (hq : Q M (some (.int x))) : Z Γ R μ (zPh Γ μ Q) μ.2.2.2.2.2.1 μ.2.2.2.2.2.2 pc ls [.int x] M := by
  intro p e s m args below meth c d0 H locs la hc hd0 hP hS hz hn hl
  obtain ⟨hx, hb, hrt, hml, hown, hts, hlk, hnm, hkb⟩ := hc
  refine W.endD hd0 ?_
  exact W.iret (s := s.setDrawn d0) hx hb (hrt.trans hr) (fun t ht hW => ⟨⟨some (.int x), M, rfl, hq, hz, hn, by rw [ht]; exact hP⟩, hS.F (s := s.setDrawn d0) ht⟩) hS.2.2 hd hlk
theorem Z_zret {Q : List zE → Option Value → Prop} {x : Int32} {ty : FieldType} (hd : decode μ.2.2.1 pc = .ok (.ireturn, 1)) (hr : μ.2.2.2.2.1 = some ty) (hnr : narrow ty (.int x) = .int x) (hq : Q M (some (.int x))) : Z Γ R μ (zPh Γ μ Q) μ.2.2.2.2.2.1 μ.2.2.2.2.2.2 pc ls [.int x] M := by
  intro p e s m args below meth c d0 H locs la hc hd0 hP hS hz hn hl
  obtain ⟨hx, hb, hrt, hml, hown, hts, hlk, hnm, hkb⟩ := hc
  refine W.endD hd0 ?_
  exact W.zret (s := s.setDrawn d0) hx hb (hrt.trans hr) hnr (fun t ht hW => ⟨⟨some (.int x), M, rfl, hq, hz, hn, by rw [ht]; exact hP⟩, hS.F (s := s.setDrawn d0) ht⟩) hS.2.2 hd hlk
theorem Z_lret {Q : List zE → Option Value → Prop} {x : Int64} (hd : decode μ.2.2.1 pc = .ok (.lreturn, 1)) (hr : μ.2.2.2.2.1 = some .long) (hq : Q M (some (.long x))) : Z Γ R μ (zPh Γ μ Q) μ.2.2.2.2.2.1 μ.2.2.2.2.2.2 pc ls [.long x] M := by
  intro p e s m args below meth c d0 H locs la hc hd0 hP hS hz hn hl
  obtain ⟨hx, hb, hrt, hml, hown, hts, hlk, hnm, hkb⟩ := hc
  refine W.endD hd0 ?_
  exact W.lret (s := s.setDrawn d0) hx hb (hrt.trans hr) (fun t ht hW => ⟨⟨some (.long x), M, rfl, hq, hz, hn, by rw [ht]; exact hP⟩, hS.F (s := s.setDrawn d0) ht⟩) hS.2.2 hd hlk
theorem Z_vret {Q : List zE → Option Value → Prop} (hd : decode μ.2.2.1 pc = .ok (.return_, 1)) (hr : μ.2.2.2.2.1 = none) (hq : Q M none) : Z Γ R μ (zPh Γ μ Q) μ.2.2.2.2.2.1 μ.2.2.2.2.2.2 pc ls [] M := by
  intro p e s m args below meth c d0 H locs la hc hd0 hP hS hz hn hl
  obtain ⟨hx, hb, hrt, hml, hown, hts, hlk, hnm, hkb⟩ := hc
  refine W.endD hd0 ?_
  exact W.vret (s := s.setDrawn d0) hx hb (hrt.trans hr) (fun t ht hW => ⟨⟨none, M, rfl, hq, hz, hn, by rw [ht]; exact hP⟩, hS.F (s := s.setDrawn d0) ht⟩) hS.2.2 hd hlk
theorem Z_aret {Q : List zE → Option Value → Prop} {x : Nat} {rt : FieldType} (hd : decode μ.2.2.1 pc = .ok (.areturn, 1)) (hr : μ.2.2.2.2.1 = some rt) (hrt : (∃ n, rt = .object n) ∨ ∃ t, rt = .array t) (hq : Q M (some (.ref x))) : Z Γ R μ (zPh Γ μ Q) μ.2.2.2.2.2.1 μ.2.2.2.2.2.2 pc ls [.ref x] M := by
  intro p e s m args below meth c d0 H locs la hc hd0 hP hS hz hn hl
  obtain ⟨hx, hb, hrt0, hml, hown, hts, hlk, hnm, hkb⟩ := hc
  refine W.endD hd0 ?_
  exact W.aret (s := s.setDrawn d0) (v := zv Γ (.ref x)) hx hb (hrt0.trans hr) hrt (zv_refs hkb.2.2.2.2.2.2.2.2.2.2.2 x) (fun t ht hW => ⟨⟨some (.ref x), M, rfl, hq, hz, hn, by rw [ht]; exact hP⟩, hS.F (s := s.setDrawn d0) ht⟩) hS.2.2 hd hlk
theorem z_size {p : Program} {e : Env} {s : State} {m : MethodId} {args : Array Value} {below : List Frame} {meth : Method} {c : Code} {d0 : Drawn} {H : Heap} {locs : List Loc} {T : State} (hkb : zKB Γ s) (hP : va_P (zD Γ) zCl (zw Γ M) H) (hS : va_S (zA Γ) s.heap H locs) (hz : s.heap.size + kc = zSz Γ + M.length) (hT : T.heap = H) (X : Stand p (zL Γ) e R (s.setDrawn d0) m args below meth c T locs kc ks) : H.size = zSz Γ + M.length := by
  have h1 : T.heap.size ≤ s.heap.size + kc := X.heapSize
  rw [hT] at h1
  have h2 : zSz Γ + M.length ≤ H.size := by
    cases hM : M.length with
    | zero => exact Nat.le_trans hkb.2.2.2.2.2.2.2.2.1 hS.1
    | succ n =>
      have hlt : n < M.length := by omega
      have h3 : M[n]? = some M[n] := List.getElem?_eq_getElem hlt
      have h4 : zSz Γ + n < H.size := (hP n _ (zw_get h3)).lt
      omega
  omega
theorem z_core {p : Program} {e : Env} {s : State} {m : MethodId} {args a : Array Value} {below : List Frame} {meth : Method} {c : Code} {d0 : Drawn} {H : Heap} {locs : List Loc} {la : Array Slot} {mc ms : Nat} {Q1 : List zE → Option Value → Prop} {stk : List Value}
    (hc : zAt Γ μ p s m args meth c) (hd0 : s.drawn.sameBut d0 lw_cs) (hP : va_P (zD Γ) zCl (zw Γ M) H) (hS : va_S (zA Γ) s.heap H locs) (hz : s.heap.size + kc = zSz Γ + M.length) (hl : zLs Γ la μ.2.2.2.1 ls)
    (hr : va_RunD lw_cs p (zL Γ) e R (s.setDrawn d0) m args below meth c H locs kc ks mc ms (F0 m pc la stk) (st.map (zv Γ)) (zQc Γ mc Q1 a) (zA Γ))
    (kk : ∀ (M1 : List zE) (v : Option Value), Q1 M1 v → M1.length = M.length + mc → Z Γ R μ Φ (kc + mc) (ks + ms) (pc + 3) ls (v.toList ++ st) M1) :
    W p (zL Γ) e R (s.setDrawn d0) m args below meth c H locs kc ks (Φ below args s) (F0 m pc la stk) := by
  intro T hT X
  have hsz := z_size hc.2.2.2.2.2.2.2.2 hP hS hz hT X
  obtain ⟨v, st₀, t, T', L, d', hd', h0, X', hL, e1, e2, ⟨⟨v', M1, hv, hq, hs1, hn1, hp1⟩, hz1, hk1⟩, stp⟩ := hr T hT X
  have hv' : v = v'.map (zv Γ) := by cases hv; rfl
  subst hv'
  rw [h0] at hs1 hz1 hk1
  have hlen : M1.length = M.length + mc := by omega
  have hstk : (v'.map (zv Γ)).toList ++ st.map (zv Γ) = (v'.toList ++ st).map (zv Γ) := by cases v' <;> rfl
  have w := kk M1 v' hq hlen p e s m args below meth c d' T'.heap (locs ++ L) la hc (hd0.trans hd') (by rw [e1]; exact hp1) ⟨by rw [e1]; exact Nat.le_trans hS.1 hz1, fun q h1 h2 => by rw [e1, hk1 q (Nat.lt_of_lt_of_le h1 hS.1) h2]; exact hS.2.1 q h1 h2, fun q hq => by
      rcases List.mem_append.mp hq with h | h
      · exact hS.2.2 q h
      · exact hL q h⟩ (by omega) hn1 hl
  rw [← hstk] at w
  obtain ⟨t2, a1, b1⟩ := w T' rfl X'
  exact ⟨t2, stp t2 a1, b1⟩
theorem z_pre {s U : State} {d0 : Drawn} {args : List Value} {H : Heap} {locs : List Loc} (hkb : zKB Γ s) (hP : va_P (zD Γ) zCl (zw Γ M) H) (hS : va_S (zA Γ) s.heap H locs) (hsz : H.size = zSz Γ + M.length) (hn : M.length ≤ 1000000) (hU : U.heap = H) (hW : (s.setDrawn d0).WarmedH U.vm) : zPc Γ args M (args.map (zv Γ)).toArray U :=
  ⟨rfl, hkb.to (u := s) hW (fun q h1 h2 => by rw [hU]; exact hS.2.1 q h1 h2) (by rw [hU, hsz]; omega), by rw [hU]; exact hP, by rw [hU]; exact hsz, hn⟩
theorem z_callB {μ' : zMe} {d idx n : Nat} {own : String} {s : State} {args : Array Value} {d0 : Drawn} (hts : ∀ w ∈ zG, w.before args s = true) (hk : zMk μ') (hpar : (parseMethodDescriptor μ'.2.1.desc).map (fun d => d.parameters.length) = some n) (hl : Cond.methodLink own idx μ'.2.1 ∈ zG) (hfr : d + 1 ≤ R.frames) (hlo : 64 * (d + 1) ≤ R.locals) :
    CallB R (s.setDrawn d0) args own idx μ'.2.1 μ'.2.2.1 μ'.2.2.2.1 μ'.2.2.2.2.1 (zWs μ') (zRm d μ') μ'.2.2.2.2.2.1 μ'.2.2.2.2.2.2 n := by
  obtain ⟨hk1, hk2, hk3, hk4, hk5, hk6⟩ := hk
  refine ⟨rfl, rfl, hfr, ?_, pay_in (dr_words hts d0) (zG_in _ hk1 zG (fun _ h => h)), List.mem_cons_self, dr_words hts d0 _ hk1, dr_words hts d0 _ hk2, hk4, fun sig h => ?_, dr_words hts d0 _ hl⟩
  · show 8 + (μ'.2.2.2.1 + 11) + 64 * d ≤ R.locals
    omega
  · rw [h] at hpar
    exact (Option.some.inj hpar).symm
theorem z_callN {μ' : zMe} {d idx n : Nat} {own host : String} {s : State} {args : Array Value} {d0 : Drawn} (hts : ∀ w ∈ zG, w.before args s = true) (hkb : zKB Γ s) (hk : zMk μ') (hpar : (parseMethodDescriptor μ'.2.1.desc).map (fun d => d.parameters.length) = some n) (hl : Cond.methodLinkNest own idx μ'.2.1 host ∈ zN) (hfr : d + 1 ≤ R.frames) (hlo : 64 * (d + 1) ≤ R.locals) :
    va_CN R (s.setDrawn d0) args own idx μ'.2.1 host μ'.2.2.1 μ'.2.2.2.1 μ'.2.2.2.2.1 (zWs μ') (zRm d μ') μ'.2.2.2.2.2.1 μ'.2.2.2.2.2.2 n := by
  obtain ⟨hk1, hk2, hk3, hk4, hk5, hk6⟩ := hk
  refine va_cnB n (dr_words hts d0) (zG_in _ hk1 zG (fun _ h => h)) rfl rfl rfl (va_Nw.same rfl rfl (hkb.2.1 _ hl)) (dr_words hts d0 _ hk2) ⟨hk4.1, hk4.2, hpar⟩ ⟨hfr, ?_⟩
  show 8 + (μ'.2.2.2.1 + 11) + 64 * d ≤ R.locals
  omega
theorem z_rest {st : List Value} (hs : ∀ k, zSp Γ k = .null ∨ ∃ a, zSp Γ k = .ref a) (h : (st.map fun v => v.category).sum ≤ 8) : ((st.map (zv Γ)).map fun v => v.category).sum ≤ 8 := by
  rw [List.map_map, show (fun v : Value => v.category) ∘ zv Γ = fun v => v.category from funext fun v => zv_cat hs v]
  exact h
/-- a call on an object whose cell is at hand -/
theorem z_callVr {μ' : zMe} {d idx k b : Nat} {As : List Value} {Q1 : List zE → Option Value → Prop} (hd : decode μ.2.2.1 pc = .ok (.invokevirtual idx, 3)) (hL : zLv μ.1 idx As.length μ') (hb0 : zv Γ (.ref k) = .ref b) (hrec : ∀ (s : State) (H : Heap) (locs : List Loc), zKB Γ s → va_P (zD Γ) zCl (zw Γ M) H → va_S (zA Γ) s.heap H locs → ∃ cellB : Cell, H[b]? = some cellB ∧ cellB.vm.isStatics = false ∧ s.vm.findClass μ'.2.1.cls = some cellB.cls) (hM : ZM Γ d μ' (.ref k :: As) M Q1)
    (hst : (st.map fun v => v.category).sum ≤ 8) (hfr : d + 1 ≤ R.frames) (hlo : 64 * (d + 1) ≤ R.locals) (hce : kc + μ'.2.2.2.2.2.1 ≤ R.cells) (hsl : ks + μ'.2.2.2.2.2.2 ≤ R.slots)
    (kk : ∀ (M1 : List zE) (v : Option Value), Q1 M1 v → M1.length = M.length + μ'.2.2.2.2.2.1 → Z Γ R μ Φ (kc + μ'.2.2.2.2.2.1) (ks + μ'.2.2.2.2.2.2) (pc + 3) ls (v.toList ++ st) M1) : Z Γ R μ Φ kc ks pc ls (As.reverse ++ .ref k :: st) M := by
  intro p e s m args below meth c d0 H locs la hc hd0 hP hS hz hn hl T hT X
  have hc0 := hc
  obtain ⟨hx, hb, hrt, hml, hown, hts, hlk, hnm, hkb⟩ := hc
  have hsz := z_size hkb hP hS hz hT X
  have hs := hkb.2.2.2.2.2.2.2.2.2.2.2
  obtain ⟨⟨hk, hpar, hlink⟩, hin, hsel⟩ := hL
  have hmap : (As.reverse ++ .ref k :: st).map (zv Γ) = (As.map (zv Γ)).reverse ++ .ref b :: st.map (zv Γ) := by
    rw [List.map_append, List.map_reverse, List.map_cons, hb0]
  have hpc : ∀ U : State, U.heap = H → (s.setDrawn d0).WarmedH U.vm → zPc Γ (.ref k :: As) M (Value.ref b :: As.map (zv Γ)).toArray U := fun U hU hW => by
    have h1 := z_pre (args := .ref k :: As) hkb hP hS hsz hn hU hW
    rw [List.map_cons, hb0] at h1
    exact h1
  have hrun : va_RunD lw_cs p (zL Γ) e R (s.setDrawn d0) m args below meth c H locs kc ks μ'.2.2.2.2.2.1 μ'.2.2.2.2.2.2 (F0 m pc la ((As.reverse ++ .ref k :: st).map (zv Γ))) (st.map (zv Γ)) (zQc Γ μ'.2.2.2.2.2.1 Q1 (Value.ref b :: As.map (zv Γ)).toArray) (zA Γ) := by
    rcases hlink with h | ⟨host, h⟩
    · exact va_runV_D (s := s.setDrawn d0) (Ts := zG) ⟨hx, hb, hml, hown, dr_words hts d0⟩ hM ⟨z_callB hts hk hpar h hfr hlo, dr_words hts d0 _ hin, dr_words hts d0 _ hsel⟩ ⟨zPc_blind _ _ _, hrec s H locs hkb hP hS, hpc⟩ rfl (List.length_map ..) hl.1 hmap (lv_room (z_rest hs hst)) hd ⟨hce, hsl⟩
    · exact va_runVN_D (s := s.setDrawn d0) (Ts := zG) ⟨hx, hb, hml, hown, dr_words hts d0⟩ hM ⟨z_callN hts hkb hk hpar h hfr hlo, dr_words hts d0 _ hin, dr_words hts d0 _ hsel⟩ ⟨zPc_blind _ _ _, hrec s H locs hkb hP hS, hpc⟩ rfl (List.length_map ..) hl.1 hmap (lv_room (z_rest hs hst)) hd ⟨hce, hsl⟩
  exact z_core hc0 hd0 hP hS hz hl hrun kk T hT X
theorem Z_callV {μ' : zMe} {d idx k ci N : Nat} {T0 : u_T} {fs As : List Value} {Q1 : List zE → Option Value → Prop} (hd : decode μ.2.2.1 pc = .ok (.invokevirtual idx, 3)) (hL : zLv μ.1 idx As.length μ') (hMk : M[k]? = some (.inr (ci, fs))) (hcl : zCl[ci]? = some (μ'.2.1.cls, T0, N)) (hM : ZM Γ d μ' (.ref k :: As) M Q1)
    (hst : (st.map fun v => v.category).sum ≤ 8) (hfr : d + 1 ≤ R.frames) (hlo : 64 * (d + 1) ≤ R.locals) (hce : kc + μ'.2.2.2.2.2.1 ≤ R.cells) (hsl : ks + μ'.2.2.2.2.2.2 ≤ R.slots)
    (kk : ∀ (M1 : List zE) (v : Option Value), Q1 M1 v → M1.length = M.length + μ'.2.2.2.2.2.1 → Z Γ R μ Φ (kc + μ'.2.2.2.2.2.1) (ks + μ'.2.2.2.2.2.2) (pc + 3) ls (v.toList ++ st) M1) : Z Γ R μ Φ kc ks pc ls (As.reverse ++ .ref k :: st) M := by
  intro p e s m args below meth c d0 H locs la hc hd0 hP hS hz hn hl
  have hk : k < 1000000 := Nat.lt_of_lt_of_le (z_lt hMk) hn
  exact z_callVr hd hL (zv_ref hk) (fun s H locs hkb hP hS => va_recv hkb.1 hP hcl (zw_get hMk)) hM hst hfr hlo hce hsl kk p e s m args below meth c d0 H locs la hc hd0 hP hS hz hn hl
theorem Z_callT {μ' : zMe} {d idx : Nat} {As : List Value} {Q1 : List zE → Option Value → Prop} (hd : decode μ.2.2.1 pc = .ok (.invokestatic idx, 3)) (hL : zLt μ.1 idx As.length μ') (hM : ZM Γ d μ' As M Q1)
    (hst : (st.map fun v => v.category).sum ≤ 8) (hfr : d + 1 ≤ R.frames) (hlo : 64 * (d + 1) ≤ R.locals) (hce : kc + μ'.2.2.2.2.2.1 ≤ R.cells) (hsl : ks + μ'.2.2.2.2.2.2 ≤ R.slots)
    (kk : ∀ (M1 : List zE) (v : Option Value), Q1 M1 v → M1.length = M.length + μ'.2.2.2.2.2.1 → Z Γ R μ Φ (kc + μ'.2.2.2.2.2.1) (ks + μ'.2.2.2.2.2.2) (pc + 3) ls (v.toList ++ st) M1) : Z Γ R μ Φ kc ks pc ls (As.reverse ++ st) M := by
  intro p e s m args below meth c d0 H locs la hc hd0 hP hS hz hn hl T hT X
  have hc0 := hc
  obtain ⟨hx, hb, hrt, hml, hown, hts, hlk, hnm, hkb⟩ := hc
  have hsz := z_size hkb hP hS hz hT X
  have hs := hkb.2.2.2.2.2.2.2.2.2.2.2
  obtain ⟨⟨hk, hpar, hlink⟩, hst0⟩ := hL
  have hmap : (As.reverse ++ st).map (zv Γ) = (As.map (zv Γ)).reverse ++ st.map (zv Γ) := by
    rw [List.map_append, List.map_reverse]
  have hpc : ∀ U : State, U.heap = H → (s.setDrawn d0).WarmedH U.vm → zPc Γ As M (As.map (zv Γ)).toArray U := fun U hU hW => z_pre (args := As) hkb hP hS hsz hn hU hW
  have hrun : va_RunD lw_cs p (zL Γ) e R (s.setDrawn d0) m args below meth c H locs kc ks μ'.2.2.2.2.2.1 μ'.2.2.2.2.2.2 (F0 m pc la ((As.reverse ++ st).map (zv Γ))) (st.map (zv Γ)) (zQc Γ μ'.2.2.2.2.2.1 Q1 (As.map (zv Γ)).toArray) (zA Γ) := by
    rcases hlink with h | ⟨host, h⟩
    · exact va_runS_D (s := s.setDrawn d0) (Ts := zG) ⟨hx, hb, hml, hown, dr_words hts d0⟩ hM ⟨z_callB hts hk hpar h hfr hlo, dr_words hts d0 _ hst0⟩ ⟨zPc_blind _ _ _, hpc⟩ rfl (List.length_map ..) hl.1 hmap (lv_room (z_rest hs hst)) hd ⟨hce, hsl⟩
    · exact va_runSN_D (s := s.setDrawn d0) (Ts := zG) ⟨hx, hb, hml, hown, dr_words hts d0⟩ hM ⟨z_callN hts hkb hk hpar h hfr hlo, dr_words hts d0 _ hst0, trivial⟩ ⟨zPc_blind _ _ _, hpc⟩ rfl (List.length_map ..) hl.1 hmap (lv_room (z_rest hs hst)) hd ⟨hce, hsl⟩
  exact z_core hc0 hd0 hP hS hz hl hrun kk T hT X
theorem Z_callI {μ' : zMe} {d idx k : Nat} {As : List Value} {Q1 : List zE → Option Value → Prop} (hd : decode μ.2.2.1 pc = .ok (.invokespecial idx, 3)) (hL : zLi μ.1 idx As.length μ') (hk0 : k < 1000000) (hM : ZM Γ d μ' (.ref k :: As) M Q1)
    (hst : (st.map fun v => v.category).sum ≤ 8) (hfr : d + 1 ≤ R.frames) (hlo : 64 * (d + 1) ≤ R.locals) (hce : kc + μ'.2.2.2.2.2.1 ≤ R.cells) (hsl : ks + μ'.2.2.2.2.2.2 ≤ R.slots)
    (kk : ∀ (M1 : List zE) (v : Option Value), Q1 M1 v → M1.length = M.length + μ'.2.2.2.2.2.1 → Z Γ R μ Φ (kc + μ'.2.2.2.2.2.1) (ks + μ'.2.2.2.2.2.2) (pc + 3) ls (v.toList ++ st) M1) : Z Γ R μ Φ kc ks pc ls (As.reverse ++ .ref k :: st) M := by
  intro p e s m args below meth c d0 H locs la hc hd0 hP hS hz hn hl T hT X
  have hc0 := hc
  obtain ⟨hx, hb, hrt, hml, hown, hts, hlk, hnm, hkb⟩ := hc
  have hsz := z_size hkb hP hS hz hT X
  have hs := hkb.2.2.2.2.2.2.2.2.2.2.2
  obtain ⟨⟨hk, hpar, hlink⟩, hin, hnam, hret⟩ := hL
  have hb0 := zv_ref (Γ := Γ) hk0
  have hmap : (As.reverse ++ .ref k :: st).map (zv Γ) = (As.map (zv Γ)).reverse ++ .ref (zSz Γ + k) :: st.map (zv Γ) := by
    rw [List.map_append, List.map_reverse, List.map_cons, hb0]
  have hpc : ∀ U : State, U.heap = H → (s.setDrawn d0).WarmedH U.vm → zPc Γ (.ref k :: As) M (Value.ref (zSz Γ + k) :: As.map (zv Γ)).toArray U := fun U hU hW => by
    have h1 := z_pre (args := .ref k :: As) hkb hP hS hsz hn hU hW
    rw [List.map_cons, hb0] at h1
    exact h1
  have hrun : va_RunD lw_cs p (zL Γ) e R (s.setDrawn d0) m args below meth c H locs kc ks μ'.2.2.2.2.2.1 μ'.2.2.2.2.2.2 (F0 m pc la ((As.reverse ++ .ref k :: st).map (zv Γ))) (st.map (zv Γ)) (zQc Γ μ'.2.2.2.2.2.1 Q1 (Value.ref (zSz Γ + k) :: As.map (zv Γ)).toArray) (zA Γ) := by
    rcases hlink with h | ⟨host, h⟩
    · have cb := z_callB (R := R) (d0 := d0) hts hk hpar h hfr hlo
      rw [hret] at cb
      exact va_runI_D (s := s.setDrawn d0) (Ts := zG) ⟨hx, hb, hml, hown, dr_words hts d0⟩ hM ⟨cb, hnam, dr_words hts d0 _ hin⟩ ⟨zPc_blind _ _ _, hpc⟩ rfl (List.length_map ..) hl.1 hmap (lv_room (z_rest hs hst)) hd ⟨hce, hsl⟩
    · have cb := z_callN (R := R) (d0 := d0) hts hkb hk hpar h hfr hlo
      rw [hret] at cb
      exact va_runIN_D (s := s.setDrawn d0) (Ts := zG) ⟨hx, hb, hml, hown, dr_words hts d0⟩ hM ⟨cb, hnam, dr_words hts d0 _ hin⟩ ⟨zPc_blind _ _ _, hpc⟩ rfl (List.length_map ..) hl.1 hmap (lv_room (z_rest hs hst)) hd ⟨hce, hsl⟩
  exact z_core hc0 hd0 hP hS hz hl hrun kk T hT X
end ZC
end
