section
-- ===== PART A: goes FIRST, ahead of the names: the tables' words, and 'selects' of the private methods out of them =====
/-- a private method of a class that the tables say can be made, by its rows of tables_1 -/
def lw_okq (q : MethodName × Nat) : Prop := (q.1.cls ≠ "java/lang/invoke/MethodHandle" ∧ q.1.cls ≠ "java/lang/invoke/VarHandle") ∧ Cond.instantiable q.1.cls q.2 ∈ tables_1 ∧ Cond.privateMethod q.1 ∈ tables_1 ∧ Cond.instanceMethod q.1 ∈ tables_1
theorem lw_p0 : lw_okq (⟨"StatuteConsolidator$Statute", "hasProvision", "(I)Z"⟩, 4) := ⟨⟨by decide +kernel, by decide +kernel⟩, List.mem_of_getElem? (i := 27) (by decide +kernel), List.mem_of_getElem? (i := 232) (by decide +kernel), List.mem_of_getElem? (i := 233) (by decide +kernel)⟩
theorem lw_p1 : lw_okq (⟨"StatuteConsolidator$Statute", "pathOf", "(I)J"⟩, 4) := ⟨⟨by decide +kernel, by decide +kernel⟩, List.mem_of_getElem? (i := 27) (by decide +kernel), List.mem_of_getElem? (i := 239) (by decide +kernel), List.mem_of_getElem? (i := 240) (by decide +kernel)⟩
theorem lw_p2 : lw_okq (⟨"StatuteConsolidator$Provisions", "positionOfOrigin", "(I)I"⟩, 6) := ⟨⟨by decide +kernel, by decide +kernel⟩, List.mem_of_getElem? (i := 33) (by decide +kernel), List.mem_of_getElem? (i := 243) (by decide +kernel), List.mem_of_getElem? (i := 244) (by decide +kernel)⟩
theorem lw_p3 : lw_okq (⟨"StatuteConsolidator$Provisions", "labelOfNewLastChild", "(J)I"⟩, 6) := ⟨⟨by decide +kernel, by decide +kernel⟩, List.mem_of_getElem? (i := 33) (by decide +kernel), List.mem_of_getElem? (i := 252) (by decide +kernel), List.mem_of_getElem? (i := 253) (by decide +kernel)⟩
theorem lw_p4 : lw_okq (⟨"StatuteConsolidator$Statute", "createProvision", "(JI)I"⟩, 4) := ⟨⟨by decide +kernel, by decide +kernel⟩, List.mem_of_getElem? (i := 27) (by decide +kernel), List.mem_of_getElem? (i := 282) (by decide +kernel), List.mem_of_getElem? (i := 283) (by decide +kernel)⟩
theorem lw_p5 : lw_okq (⟨"StatuteConsolidator$Provisions", "append", "(JIII)V"⟩, 6) := ⟨⟨by decide +kernel, by decide +kernel⟩, List.mem_of_getElem? (i := 33) (by decide +kernel), List.mem_of_getElem? (i := 286) (by decide +kernel), List.mem_of_getElem? (i := 287) (by decide +kernel)⟩
theorem lw_p6 : lw_okq (⟨"StatuteConsolidator$Provisions", "restoreOrder", "()V"⟩, 6) := ⟨⟨by decide +kernel, by decide +kernel⟩, List.mem_of_getElem? (i := 33) (by decide +kernel), List.mem_of_getElem? (i := 290) (by decide +kernel), List.mem_of_getElem? (i := 291) (by decide +kernel)⟩
theorem lw_p7 : lw_okq (⟨"StatuteConsolidator$Provisions", "swap", "(II)V"⟩, 6) := ⟨⟨by decide +kernel, by decide +kernel⟩, List.mem_of_getElem? (i := 33) (by decide +kernel), List.mem_of_getElem? (i := 294) (by decide +kernel), List.mem_of_getElem? (i := 295) (by decide +kernel)⟩
theorem lw_p8 : lw_okq (⟨"StatuteConsolidator$Provisions", "labelAfter", "(JJ)I"⟩, 6) := ⟨⟨by decide +kernel, by decide +kernel⟩, List.mem_of_getElem? (i := 33) (by decide +kernel), List.mem_of_getElem? (i := 302) (by decide +kernel), List.mem_of_getElem? (i := 303) (by decide +kernel)⟩
theorem lw_p9 : lw_okq (⟨"StatuteConsolidator$Shelves", "emptyAll", "()V"⟩, 4) := ⟨⟨by decide +kernel, by decide +kernel⟩, List.mem_of_getElem? (i := 153) (by decide +kernel), List.mem_of_getElem? (i := 328) (by decide +kernel), List.mem_of_getElem? (i := 329) (by decide +kernel)⟩
theorem lw_p10 : lw_okq (⟨"StatuteConsolidator", "storeAmendment", "(I)I"⟩, 7) := ⟨⟨by decide +kernel, by decide +kernel⟩, List.mem_of_getElem? (i := 19) (by decide +kernel), List.mem_of_getElem? (i := 348) (by decide +kernel), List.mem_of_getElem? (i := 349) (by decide +kernel)⟩
theorem lw_p11 : lw_okq (⟨"StatuteConsolidator$Input", "readInstructions", "(LStatuteConsolidator$Amendments;I)I"⟩, 3) := ⟨⟨by decide +kernel, by decide +kernel⟩, List.mem_of_getElem? (i := 134) (by decide +kernel), List.mem_of_getElem? (i := 355) (by decide +kernel), List.mem_of_getElem? (i := 356) (by decide +kernel)⟩
theorem lw_p12 : lw_okq (⟨"StatuteConsolidator$Input", "readInstruction", "(LStatuteConsolidator$Amendments;I)Z"⟩, 3) := ⟨⟨by decide +kernel, by decide +kernel⟩, List.mem_of_getElem? (i := 134) (by decide +kernel), List.mem_of_getElem? (i := 359) (by decide +kernel), List.mem_of_getElem? (i := 360) (by decide +kernel)⟩
theorem lw_p13 : lw_okq (⟨"StatuteConsolidator$Input", "readKind", "()I"⟩, 3) := ⟨⟨by decide +kernel, by decide +kernel⟩, List.mem_of_getElem? (i := 134) (by decide +kernel), List.mem_of_getElem? (i := 363) (by decide +kernel), List.mem_of_getElem? (i := 364) (by decide +kernel)⟩
theorem lw_p14 : lw_okq (⟨"StatuteConsolidator$Input", "matchingLength", "(Ljava/lang/String;)I"⟩, 3) := ⟨⟨by decide +kernel, by decide +kernel⟩, List.mem_of_getElem? (i := 134) (by decide +kernel), List.mem_of_getElem? (i := 376) (by decide +kernel), List.mem_of_getElem? (i := 377) (by decide +kernel)⟩
theorem lw_p15 : lw_okq (⟨"StatuteConsolidator$Input", "take", "(I)Z"⟩, 3) := ⟨⟨by decide +kernel, by decide +kernel⟩, List.mem_of_getElem? (i := 134) (by decide +kernel), List.mem_of_getElem? (i := 430) (by decide +kernel), List.mem_of_getElem? (i := 431) (by decide +kernel)⟩
def lw_privs_1 : List (MethodName × Nat) := [(⟨"StatuteConsolidator$Statute", "hasProvision", "(I)Z"⟩, 4), (⟨"StatuteConsolidator$Statute", "pathOf", "(I)J"⟩, 4), (⟨"StatuteConsolidator$Provisions", "positionOfOrigin", "(I)I"⟩, 6), (⟨"StatuteConsolidator$Provisions", "labelOfNewLastChild", "(J)I"⟩, 6), (⟨"StatuteConsolidator$Statute", "createProvision", "(JI)I"⟩, 4), (⟨"StatuteConsolidator$Provisions", "append", "(JIII)V"⟩, 6), (⟨"StatuteConsolidator$Provisions", "restoreOrder", "()V"⟩, 6), (⟨"StatuteConsolidator$Provisions", "swap", "(II)V"⟩, 6), (⟨"StatuteConsolidator$Provisions", "labelAfter", "(JJ)I"⟩, 6), (⟨"StatuteConsolidator$Shelves", "emptyAll", "()V"⟩, 4), (⟨"StatuteConsolidator", "storeAmendment", "(I)I"⟩, 7), (⟨"StatuteConsolidator$Input", "readInstructions", "(LStatuteConsolidator$Amendments;I)I"⟩, 3), (⟨"StatuteConsolidator$Input", "readInstruction", "(LStatuteConsolidator$Amendments;I)Z"⟩, 3), (⟨"StatuteConsolidator$Input", "readKind", "()I"⟩, 3), (⟨"StatuteConsolidator$Input", "matchingLength", "(Ljava/lang/String;)I"⟩, 3), (⟨"StatuteConsolidator$Input", "take", "(I)Z"⟩, 3)]
theorem lw_r1 : ∀ q ∈ lw_privs_1, lw_okq q := List.forall_mem_cons.mpr ⟨lw_p0, List.forall_mem_cons.mpr ⟨lw_p1, List.forall_mem_cons.mpr ⟨lw_p2, List.forall_mem_cons.mpr ⟨lw_p3, List.forall_mem_cons.mpr ⟨lw_p4, List.forall_mem_cons.mpr ⟨lw_p5, List.forall_mem_cons.mpr ⟨lw_p6, List.forall_mem_cons.mpr ⟨lw_p7, List.forall_mem_cons.mpr ⟨lw_p8, List.forall_mem_cons.mpr ⟨lw_p9, List.forall_mem_cons.mpr ⟨lw_p10, List.forall_mem_cons.mpr ⟨lw_p11, List.forall_mem_cons.mpr ⟨lw_p12, List.forall_mem_cons.mpr ⟨lw_p13, List.forall_mem_cons.mpr ⟨lw_p14, List.forall_mem_cons.mpr ⟨lw_p15, fun _ h => absurd h List.not_mem_nil⟩⟩⟩⟩⟩⟩⟩⟩⟩⟩⟩⟩⟩⟩⟩⟩
theorem lw_p16 : lw_okq (⟨"StatuteConsolidator$Input", "peek", "()I"⟩, 3) := ⟨⟨by decide +kernel, by decide +kernel⟩, List.mem_of_getElem? (i := 134) (by decide +kernel), List.mem_of_getElem? (i := 434) (by decide +kernel), List.mem_of_getElem? (i := 435) (by decide +kernel)⟩
theorem lw_p17 : lw_okq (⟨"StatuteConsolidator$Input", "readPath", "()J"⟩, 3) := ⟨⟨by decide +kernel, by decide +kernel⟩, List.mem_of_getElem? (i := 134) (by decide +kernel), List.mem_of_getElem? (i := 438) (by decide +kernel), List.mem_of_getElem? (i := 439) (by decide +kernel)⟩
theorem lw_p18 : lw_okq (⟨"StatuteConsolidator$Input", "readLabel", "()I"⟩, 3) := ⟨⟨by decide +kernel, by decide +kernel⟩, List.mem_of_getElem? (i := 134) (by decide +kernel), List.mem_of_getElem? (i := 442) (by decide +kernel), List.mem_of_getElem? (i := 443) (by decide +kernel)⟩
theorem lw_p19 : lw_okq (⟨"StatuteConsolidator$Input", "isNextBetween", "(II)Z"⟩, 3) := ⟨⟨by decide +kernel, by decide +kernel⟩, List.mem_of_getElem? (i := 134) (by decide +kernel), List.mem_of_getElem? (i := 446) (by decide +kernel), List.mem_of_getElem? (i := 447) (by decide +kernel)⟩
theorem lw_p20 : lw_okq (⟨"StatuteConsolidator$Input", "takeDigit", "()I"⟩, 3) := ⟨⟨by decide +kernel, by decide +kernel⟩, List.mem_of_getElem? (i := 134) (by decide +kernel), List.mem_of_getElem? (i := 450) (by decide +kernel), List.mem_of_getElem? (i := 451) (by decide +kernel)⟩
theorem lw_p21 : lw_okq (⟨"StatuteConsolidator$Input", "readText", "()I"⟩, 3) := ⟨⟨by decide +kernel, by decide +kernel⟩, List.mem_of_getElem? (i := 134) (by decide +kernel), List.mem_of_getElem? (i := 456) (by decide +kernel), List.mem_of_getElem? (i := 457) (by decide +kernel)⟩
theorem lw_p22 : lw_okq (⟨"StatuteConsolidator$Amendments", "has", "(I)Z"⟩, 7) := ⟨⟨by decide +kernel, by decide +kernel⟩, List.mem_of_getElem? (i := 74) (by decide +kernel), List.mem_of_getElem? (i := 469) (by decide +kernel), List.mem_of_getElem? (i := 470) (by decide +kernel)⟩
theorem lw_p23 : lw_okq (⟨"StatuteConsolidator$Version", "compute", "(LStatuteConsolidator$Statute;I)Z"⟩, 5) := ⟨⟨by decide +kernel, by decide +kernel⟩, List.mem_of_getElem? (i := 177) (by decide +kernel), List.mem_of_getElem? (i := 485) (by decide +kernel), List.mem_of_getElem? (i := 486) (by decide +kernel)⟩
theorem lw_p24 : lw_okq (⟨"StatuteConsolidator$Version", "start", "(LStatuteConsolidator$Statute;)V"⟩, 5) := ⟨⟨by decide +kernel, by decide +kernel⟩, List.mem_of_getElem? (i := 177) (by decide +kernel), List.mem_of_getElem? (i := 489) (by decide +kernel), List.mem_of_getElem? (i := 490) (by decide +kernel)⟩
theorem lw_p25 : lw_okq (⟨"StatuteConsolidator$Provisions", "copyFrom", "(LStatuteConsolidator$Provisions;)V"⟩, 6) := ⟨⟨by decide +kernel, by decide +kernel⟩, List.mem_of_getElem? (i := 33) (by decide +kernel), List.mem_of_getElem? (i := 493) (by decide +kernel), List.mem_of_getElem? (i := 494) (by decide +kernel)⟩
theorem lw_p26 : lw_okq (⟨"StatuteConsolidator$Amendments", "nextAfter", "(I)I"⟩, 7) := ⟨⟨by decide +kernel, by decide +kernel⟩, List.mem_of_getElem? (i := 74) (by decide +kernel), List.mem_of_getElem? (i := 497) (by decide +kernel), List.mem_of_getElem? (i := 498) (by decide +kernel)⟩
theorem lw_p27 : lw_okq (⟨"StatuteConsolidator$Amendments", "isBefore", "(II)Z"⟩, 7) := ⟨⟨by decide +kernel, by decide +kernel⟩, List.mem_of_getElem? (i := 74) (by decide +kernel), List.mem_of_getElem? (i := 501) (by decide +kernel), List.mem_of_getElem? (i := 502) (by decide +kernel)⟩
theorem lw_p28 : lw_okq (⟨"StatuteConsolidator$Version", "apply", "(LStatuteConsolidator$Amendments;I)V"⟩, 5) := ⟨⟨by decide +kernel, by decide +kernel⟩, List.mem_of_getElem? (i := 177) (by decide +kernel), List.mem_of_getElem? (i := 505) (by decide +kernel), List.mem_of_getElem? (i := 506) (by decide +kernel)⟩
theorem lw_p29 : lw_okq (⟨"StatuteConsolidator$Version", "reasonAgainst", "(LStatuteConsolidator$Amendments;I)I"⟩, 5) := ⟨⟨by decide +kernel, by decide +kernel⟩, List.mem_of_getElem? (i := 177) (by decide +kernel), List.mem_of_getElem? (i := 510) (by decide +kernel), List.mem_of_getElem? (i := 511) (by decide +kernel)⟩
theorem lw_p30 : lw_okq (⟨"StatuteConsolidator$Provisions", "positionOf", "(J)I"⟩, 6) := ⟨⟨by decide +kernel, by decide +kernel⟩, List.mem_of_getElem? (i := 33) (by decide +kernel), List.mem_of_getElem? (i := 514) (by decide +kernel), List.mem_of_getElem? (i := 515) (by decide +kernel)⟩
theorem lw_p31 : lw_okq (⟨"StatuteConsolidator$Version", "carryOut", "(LStatuteConsolidator$Amendments;II)I"⟩, 5) := ⟨⟨by decide +kernel, by decide +kernel⟩, List.mem_of_getElem? (i := 177) (by decide +kernel), List.mem_of_getElem? (i := 519) (by decide +kernel), List.mem_of_getElem? (i := 520) (by decide +kernel)⟩
def lw_privs_2 : List (MethodName × Nat) := [(⟨"StatuteConsolidator$Input", "peek", "()I"⟩, 3), (⟨"StatuteConsolidator$Input", "readPath", "()J"⟩, 3), (⟨"StatuteConsolidator$Input", "readLabel", "()I"⟩, 3), (⟨"StatuteConsolidator$Input", "isNextBetween", "(II)Z"⟩, 3), (⟨"StatuteConsolidator$Input", "takeDigit", "()I"⟩, 3), (⟨"StatuteConsolidator$Input", "readText", "()I"⟩, 3), (⟨"StatuteConsolidator$Amendments", "has", "(I)Z"⟩, 7), (⟨"StatuteConsolidator$Version", "compute", "(LStatuteConsolidator$Statute;I)Z"⟩, 5), (⟨"StatuteConsolidator$Version", "start", "(LStatuteConsolidator$Statute;)V"⟩, 5), (⟨"StatuteConsolidator$Provisions", "copyFrom", "(LStatuteConsolidator$Provisions;)V"⟩, 6), (⟨"StatuteConsolidator$Amendments", "nextAfter", "(I)I"⟩, 7), (⟨"StatuteConsolidator$Amendments", "isBefore", "(II)Z"⟩, 7), (⟨"StatuteConsolidator$Version", "apply", "(LStatuteConsolidator$Amendments;I)V"⟩, 5), (⟨"StatuteConsolidator$Version", "reasonAgainst", "(LStatuteConsolidator$Amendments;I)I"⟩, 5), (⟨"StatuteConsolidator$Provisions", "positionOf", "(J)I"⟩, 6), (⟨"StatuteConsolidator$Version", "carryOut", "(LStatuteConsolidator$Amendments;II)I"⟩, 5)]
theorem lw_r2 : ∀ q ∈ lw_privs_2, lw_okq q := List.forall_mem_cons.mpr ⟨lw_p16, List.forall_mem_cons.mpr ⟨lw_p17, List.forall_mem_cons.mpr ⟨lw_p18, List.forall_mem_cons.mpr ⟨lw_p19, List.forall_mem_cons.mpr ⟨lw_p20, List.forall_mem_cons.mpr ⟨lw_p21, List.forall_mem_cons.mpr ⟨lw_p22, List.forall_mem_cons.mpr ⟨lw_p23, List.forall_mem_cons.mpr ⟨lw_p24, List.forall_mem_cons.mpr ⟨lw_p25, List.forall_mem_cons.mpr ⟨lw_p26, List.forall_mem_cons.mpr ⟨lw_p27, List.forall_mem_cons.mpr ⟨lw_p28, List.forall_mem_cons.mpr ⟨lw_p29, List.forall_mem_cons.mpr ⟨lw_p30, List.forall_mem_cons.mpr ⟨lw_p31, fun _ h => absurd h List.not_mem_nil⟩⟩⟩⟩⟩⟩⟩⟩⟩⟩⟩⟩⟩⟩⟩⟩
theorem lw_p32 : lw_okq (⟨"StatuteConsolidator$Version", "insertAfter", "(JII)I"⟩, 5) := ⟨⟨by decide +kernel, by decide +kernel⟩, List.mem_of_getElem? (i := 177) (by decide +kernel), List.mem_of_getElem? (i := 523) (by decide +kernel), List.mem_of_getElem? (i := 524) (by decide +kernel)⟩
theorem lw_p33 : lw_okq (⟨"StatuteConsolidator$Version", "addChild", "(JII)I"⟩, 5) := ⟨⟨by decide +kernel, by decide +kernel⟩, List.mem_of_getElem? (i := 177) (by decide +kernel), List.mem_of_getElem? (i := 531) (by decide +kernel), List.mem_of_getElem? (i := 532) (by decide +kernel)⟩
theorem lw_p34 : lw_okq (⟨"StatuteConsolidator$Version", "replaceText", "(JI)I"⟩, 5) := ⟨⟨by decide +kernel, by decide +kernel⟩, List.mem_of_getElem? (i := 177) (by decide +kernel), List.mem_of_getElem? (i := 537) (by decide +kernel), List.mem_of_getElem? (i := 538) (by decide +kernel)⟩
theorem lw_p35 : lw_okq (⟨"StatuteConsolidator$Provisions", "repeal", "(J)V"⟩, 6) := ⟨⟨by decide +kernel, by decide +kernel⟩, List.mem_of_getElem? (i := 33) (by decide +kernel), List.mem_of_getElem? (i := 541) (by decide +kernel), List.mem_of_getElem? (i := 542) (by decide +kernel)⟩
theorem lw_p36 : lw_okq (⟨"StatuteConsolidator$Version", "moveAfter", "(JJ)I"⟩, 5) := ⟨⟨by decide +kernel, by decide +kernel⟩, List.mem_of_getElem? (i := 177) (by decide +kernel), List.mem_of_getElem? (i := 548) (by decide +kernel), List.mem_of_getElem? (i := 549) (by decide +kernel)⟩
theorem lw_p37 : lw_okq (⟨"StatuteConsolidator$Provisions", "changePath", "(JJ)V"⟩, 6) := ⟨⟨by decide +kernel, by decide +kernel⟩, List.mem_of_getElem? (i := 33) (by decide +kernel), List.mem_of_getElem? (i := 552) (by decide +kernel), List.mem_of_getElem? (i := 553) (by decide +kernel)⟩
theorem lw_p38 : lw_okq (⟨"StatuteConsolidator$Provisions", "renumberChildren", "(J)V"⟩, 6) := ⟨⟨by decide +kernel, by decide +kernel⟩, List.mem_of_getElem? (i := 33) (by decide +kernel), List.mem_of_getElem? (i := 559) (by decide +kernel), List.mem_of_getElem? (i := 560) (by decide +kernel)⟩
theorem lw_p39 : lw_okq (⟨"StatuteConsolidator$Version", "keepConflict", "(III)V"⟩, 5) := ⟨⟨by decide +kernel, by decide +kernel⟩, List.mem_of_getElem? (i := 177) (by decide +kernel), List.mem_of_getElem? (i := 564) (by decide +kernel), List.mem_of_getElem? (i := 565) (by decide +kernel)⟩
theorem lw_p40 : lw_okq (⟨"StatuteConsolidator", "refusalAt", "(II)I"⟩, 7) := ⟨⟨by decide +kernel, by decide +kernel⟩, List.mem_of_getElem? (i := 19) (by decide +kernel), List.mem_of_getElem? (i := 572) (by decide +kernel), List.mem_of_getElem? (i := 573) (by decide +kernel)⟩
theorem lw_p41 : lw_okq (⟨"StatuteConsolidator$Provisions", "has", "(I)Z"⟩, 6) := ⟨⟨by decide +kernel, by decide +kernel⟩, List.mem_of_getElem? (i := 33) (by decide +kernel), List.mem_of_getElem? (i := 576) (by decide +kernel), List.mem_of_getElem? (i := 577) (by decide +kernel)⟩
theorem lw_p42 : lw_okq (⟨"StatuteConsolidator$Input", "readOnlyPath", "()J"⟩, 3) := ⟨⟨by decide +kernel, by decide +kernel⟩, List.mem_of_getElem? (i := 134) (by decide +kernel), List.mem_of_getElem? (i := 628) (by decide +kernel), List.mem_of_getElem? (i := 629) (by decide +kernel)⟩
theorem lw_p43 : lw_okq (⟨"StatuteConsolidator$Provisions", "firstDifferenceFrom", "(LStatuteConsolidator$Provisions;)I"⟩, 6) := ⟨⟨by decide +kernel, by decide +kernel⟩, List.mem_of_getElem? (i := 33) (by decide +kernel), List.mem_of_getElem? (i := 637) (by decide +kernel), List.mem_of_getElem? (i := 638) (by decide +kernel)⟩
theorem lw_p44 : lw_okq (⟨"StatuteConsolidator$Provisions", "differsAt", "(ILStatuteConsolidator$Provisions;)Z"⟩, 6) := ⟨⟨by decide +kernel, by decide +kernel⟩, List.mem_of_getElem? (i := 33) (by decide +kernel), List.mem_of_getElem? (i := 641) (by decide +kernel), List.mem_of_getElem? (i := 642) (by decide +kernel)⟩
theorem lw_p45 : lw_okq (⟨"StatuteConsolidator$Statute", "referenceCountOf", "(I)I"⟩, 4) := ⟨⟨by decide +kernel, by decide +kernel⟩, List.mem_of_getElem? (i := 27) (by decide +kernel), List.mem_of_getElem? (i := 649) (by decide +kernel), List.mem_of_getElem? (i := 650) (by decide +kernel)⟩
theorem lw_p46 : lw_okq (⟨"StatuteConsolidator$Provisions", "positionInForce", "(I)I"⟩, 6) := ⟨⟨by decide +kernel, by decide +kernel⟩, List.mem_of_getElem? (i := 33) (by decide +kernel), List.mem_of_getElem? (i := 658) (by decide +kernel), List.mem_of_getElem? (i := 659) (by decide +kernel)⟩
theorem lw_p47 : lw_okq (⟨"StatuteConsolidator", "danglingReferencesOf", "(I)I"⟩, 7) := ⟨⟨by decide +kernel, by decide +kernel⟩, List.mem_of_getElem? (i := 19) (by decide +kernel), List.mem_of_getElem? (i := 667) (by decide +kernel), List.mem_of_getElem? (i := 668) (by decide +kernel)⟩
def lw_privs_3 : List (MethodName × Nat) := [(⟨"StatuteConsolidator$Version", "insertAfter", "(JII)I"⟩, 5), (⟨"StatuteConsolidator$Version", "addChild", "(JII)I"⟩, 5), (⟨"StatuteConsolidator$Version", "replaceText", "(JI)I"⟩, 5), (⟨"StatuteConsolidator$Provisions", "repeal", "(J)V"⟩, 6), (⟨"StatuteConsolidator$Version", "moveAfter", "(JJ)I"⟩, 5), (⟨"StatuteConsolidator$Provisions", "changePath", "(JJ)V"⟩, 6), (⟨"StatuteConsolidator$Provisions", "renumberChildren", "(J)V"⟩, 6), (⟨"StatuteConsolidator$Version", "keepConflict", "(III)V"⟩, 5), (⟨"StatuteConsolidator", "refusalAt", "(II)I"⟩, 7), (⟨"StatuteConsolidator$Provisions", "has", "(I)Z"⟩, 6), (⟨"StatuteConsolidator$Input", "readOnlyPath", "()J"⟩, 3), (⟨"StatuteConsolidator$Provisions", "firstDifferenceFrom", "(LStatuteConsolidator$Provisions;)I"⟩, 6), (⟨"StatuteConsolidator$Provisions", "differsAt", "(ILStatuteConsolidator$Provisions;)Z"⟩, 6), (⟨"StatuteConsolidator$Statute", "referenceCountOf", "(I)I"⟩, 4), (⟨"StatuteConsolidator$Provisions", "positionInForce", "(I)I"⟩, 6), (⟨"StatuteConsolidator", "danglingReferencesOf", "(I)I"⟩, 7)]
theorem lw_r3 : ∀ q ∈ lw_privs_3, lw_okq q := List.forall_mem_cons.mpr ⟨lw_p32, List.forall_mem_cons.mpr ⟨lw_p33, List.forall_mem_cons.mpr ⟨lw_p34, List.forall_mem_cons.mpr ⟨lw_p35, List.forall_mem_cons.mpr ⟨lw_p36, List.forall_mem_cons.mpr ⟨lw_p37, List.forall_mem_cons.mpr ⟨lw_p38, List.forall_mem_cons.mpr ⟨lw_p39, List.forall_mem_cons.mpr ⟨lw_p40, List.forall_mem_cons.mpr ⟨lw_p41, List.forall_mem_cons.mpr ⟨lw_p42, List.forall_mem_cons.mpr ⟨lw_p43, List.forall_mem_cons.mpr ⟨lw_p44, List.forall_mem_cons.mpr ⟨lw_p45, List.forall_mem_cons.mpr ⟨lw_p46, List.forall_mem_cons.mpr ⟨lw_p47, fun _ h => absurd h List.not_mem_nil⟩⟩⟩⟩⟩⟩⟩⟩⟩⟩⟩⟩⟩⟩⟩⟩
theorem lw_p48 : lw_okq (⟨"StatuteConsolidator$Version", "hasConflict", "(I)Z"⟩, 5) := ⟨⟨by decide +kernel, by decide +kernel⟩, List.mem_of_getElem? (i := 177) (by decide +kernel), List.mem_of_getElem? (i := 679) (by decide +kernel), List.mem_of_getElem? (i := 680) (by decide +kernel)⟩
theorem lw_p49 : lw_okq (⟨"StatuteConsolidator$Version", "computeFromTwo", "(LStatuteConsolidator$Statute;II)V"⟩, 5) := ⟨⟨by decide +kernel, by decide +kernel⟩, List.mem_of_getElem? (i := 177) (by decide +kernel), List.mem_of_getElem? (i := 695) (by decide +kernel), List.mem_of_getElem? (i := 696) (by decide +kernel)⟩
theorem lw_p50 : lw_okq (⟨"StatuteConsolidator$Provisions", "isSameResultAs", "(LStatuteConsolidator$Provisions;)Z"⟩, 6) := ⟨⟨by decide +kernel, by decide +kernel⟩, List.mem_of_getElem? (i := 33) (by decide +kernel), List.mem_of_getElem? (i := 699) (by decide +kernel), List.mem_of_getElem? (i := 700) (by decide +kernel)⟩
theorem lw_p51 : lw_okq (⟨"StatuteConsolidator$Shelves", "fillWithMissing", "(III)V"⟩, 4) := ⟨⟨by decide +kernel, by decide +kernel⟩, List.mem_of_getElem? (i := 153) (by decide +kernel), List.mem_of_getElem? (i := 726) (by decide +kernel), List.mem_of_getElem? (i := 727) (by decide +kernel)⟩
theorem lw_p52 : lw_okq (⟨"StatuteConsolidator$Shelves", "refusalOf", "(II)I"⟩, 4) := ⟨⟨by decide +kernel, by decide +kernel⟩, List.mem_of_getElem? (i := 153) (by decide +kernel), List.mem_of_getElem? (i := 734) (by decide +kernel), List.mem_of_getElem? (i := 735) (by decide +kernel)⟩
theorem lw_p53 : lw_okq (⟨"StatuteConsolidator$Shelves", "copyArray", "(II)V"⟩, 4) := ⟨⟨by decide +kernel, by decide +kernel⟩, List.mem_of_getElem? (i := 153) (by decide +kernel), List.mem_of_getElem? (i := 746) (by decide +kernel), List.mem_of_getElem? (i := 747) (by decide +kernel)⟩
theorem lw_p54 : lw_okq (⟨"StatuteConsolidator$Statute", "copyFrom", "(LStatuteConsolidator$Statute;)V"⟩, 4) := ⟨⟨by decide +kernel, by decide +kernel⟩, List.mem_of_getElem? (i := 27) (by decide +kernel), List.mem_of_getElem? (i := 757) (by decide +kernel), List.mem_of_getElem? (i := 758) (by decide +kernel)⟩
theorem lw_p55 : lw_okq (⟨"StatuteConsolidator$Amendments", "copyFrom", "(LStatuteConsolidator$Amendments;)V"⟩, 7) := ⟨⟨by decide +kernel, by decide +kernel⟩, List.mem_of_getElem? (i := 74) (by decide +kernel), List.mem_of_getElem? (i := 763) (by decide +kernel), List.mem_of_getElem? (i := 764) (by decide +kernel)⟩
theorem lw_p56 : lw_okq (⟨"StatuteConsolidatorModel", "isOriginal", "(I)Z"⟩, 57) := ⟨⟨by decide +kernel, by decide +kernel⟩, List.mem_of_getElem? (i := 772) (by decide +kernel), List.mem_of_getElem? (i := 957) (by decide +kernel), List.mem_of_getElem? (i := 958) (by decide +kernel)⟩
theorem lw_p57 : lw_okq (⟨"StatuteConsolidatorModel", "levelOf", "(I)I"⟩, 57) := ⟨⟨by decide +kernel, by decide +kernel⟩, List.mem_of_getElem? (i := 772) (by decide +kernel), List.mem_of_getElem? (i := 964) (by decide +kernel), List.mem_of_getElem? (i := 965) (by decide +kernel)⟩
theorem lw_p58 : lw_okq (⟨"StatuteConsolidatorModel", "beginVersion", "()V"⟩, 57) := ⟨⟨by decide +kernel, by decide +kernel⟩, List.mem_of_getElem? (i := 772) (by decide +kernel), List.mem_of_getElem? (i := 968) (by decide +kernel), List.mem_of_getElem? (i := 969) (by decide +kernel)⟩
theorem lw_p59 : lw_okq (⟨"StatuteConsolidatorModel", "newNode", "(IIIIII)I"⟩, 57) := ⟨⟨by decide +kernel, by decide +kernel⟩, List.mem_of_getElem? (i := 772) (by decide +kernel), List.mem_of_getElem? (i := 972) (by decide +kernel), List.mem_of_getElem? (i := 973) (by decide +kernel)⟩
theorem lw_p60 : lw_okq (⟨"StatuteConsolidatorModel", "labelAtEnd", "(I)I"⟩, 57) := ⟨⟨by decide +kernel, by decide +kernel⟩, List.mem_of_getElem? (i := 772) (by decide +kernel), List.mem_of_getElem? (i := 976) (by decide +kernel), List.mem_of_getElem? (i := 977) (by decide +kernel)⟩
theorem lw_p61 : lw_okq (⟨"StatuteConsolidatorModel", "lastChild", "(I)I"⟩, 57) := ⟨⟨by decide +kernel, by decide +kernel⟩, List.mem_of_getElem? (i := 772) (by decide +kernel), List.mem_of_getElem? (i := 980) (by decide +kernel), List.mem_of_getElem? (i := 981) (by decide +kernel)⟩
theorem lw_p62 : lw_okq (⟨"StatuteConsolidatorModel", "addOriginal", "(III)I"⟩, 57) := ⟨⟨by decide +kernel, by decide +kernel⟩, List.mem_of_getElem? (i := 772) (by decide +kernel), List.mem_of_getElem? (i := 984) (by decide +kernel), List.mem_of_getElem? (i := 985) (by decide +kernel)⟩
theorem lw_p63 : lw_okq (⟨"StatuteConsolidatorModel", "labelAfter", "(I)I"⟩, 57) := ⟨⟨by decide +kernel, by decide +kernel⟩, List.mem_of_getElem? (i := 772) (by decide +kernel), List.mem_of_getElem? (i := 992) (by decide +kernel), List.mem_of_getElem? (i := 993) (by decide +kernel)⟩
def lw_privs_4 : List (MethodName × Nat) := [(⟨"StatuteConsolidator$Version", "hasConflict", "(I)Z"⟩, 5), (⟨"StatuteConsolidator$Version", "computeFromTwo", "(LStatuteConsolidator$Statute;II)V"⟩, 5), (⟨"StatuteConsolidator$Provisions", "isSameResultAs", "(LStatuteConsolidator$Provisions;)Z"⟩, 6), (⟨"StatuteConsolidator$Shelves", "fillWithMissing", "(III)V"⟩, 4), (⟨"StatuteConsolidator$Shelves", "refusalOf", "(II)I"⟩, 4), (⟨"StatuteConsolidator$Shelves", "copyArray", "(II)V"⟩, 4), (⟨"StatuteConsolidator$Statute", "copyFrom", "(LStatuteConsolidator$Statute;)V"⟩, 4), (⟨"StatuteConsolidator$Amendments", "copyFrom", "(LStatuteConsolidator$Amendments;)V"⟩, 7), (⟨"StatuteConsolidatorModel", "isOriginal", "(I)Z"⟩, 57), (⟨"StatuteConsolidatorModel", "levelOf", "(I)I"⟩, 57), (⟨"StatuteConsolidatorModel", "beginVersion", "()V"⟩, 57), (⟨"StatuteConsolidatorModel", "newNode", "(IIIIII)I"⟩, 57), (⟨"StatuteConsolidatorModel", "labelAtEnd", "(I)I"⟩, 57), (⟨"StatuteConsolidatorModel", "lastChild", "(I)I"⟩, 57), (⟨"StatuteConsolidatorModel", "addOriginal", "(III)I"⟩, 57), (⟨"StatuteConsolidatorModel", "labelAfter", "(I)I"⟩, 57)]
theorem lw_r4 : ∀ q ∈ lw_privs_4, lw_okq q := List.forall_mem_cons.mpr ⟨lw_p48, List.forall_mem_cons.mpr ⟨lw_p49, List.forall_mem_cons.mpr ⟨lw_p50, List.forall_mem_cons.mpr ⟨lw_p51, List.forall_mem_cons.mpr ⟨lw_p52, List.forall_mem_cons.mpr ⟨lw_p53, List.forall_mem_cons.mpr ⟨lw_p54, List.forall_mem_cons.mpr ⟨lw_p55, List.forall_mem_cons.mpr ⟨lw_p56, List.forall_mem_cons.mpr ⟨lw_p57, List.forall_mem_cons.mpr ⟨lw_p58, List.forall_mem_cons.mpr ⟨lw_p59, List.forall_mem_cons.mpr ⟨lw_p60, List.forall_mem_cons.mpr ⟨lw_p61, List.forall_mem_cons.mpr ⟨lw_p62, List.forall_mem_cons.mpr ⟨lw_p63, fun _ h => absurd h List.not_mem_nil⟩⟩⟩⟩⟩⟩⟩⟩⟩⟩⟩⟩⟩⟩⟩⟩
theorem lw_p64 : lw_okq (⟨"StatuteConsolidatorModel", "nextChild", "(II)I"⟩, 57) := ⟨⟨by decide +kernel, by decide +kernel⟩, List.mem_of_getElem? (i := 772) (by decide +kernel), List.mem_of_getElem? (i := 996) (by decide +kernel), List.mem_of_getElem? (i := 997) (by decide +kernel)⟩
theorem lw_p65 : lw_okq (⟨"StatuteConsolidatorModel", "emptyShelves", "()V"⟩, 57) := ⟨⟨by decide +kernel, by decide +kernel⟩, List.mem_of_getElem? (i := 772) (by decide +kernel), List.mem_of_getElem? (i := 1021) (by decide +kernel), List.mem_of_getElem? (i := 1022) (by decide +kernel)⟩
theorem lw_p66 : lw_okq (⟨"StatuteConsolidatorModel", "readAmendment", "(I)I"⟩, 57) := ⟨⟨by decide +kernel, by decide +kernel⟩, List.mem_of_getElem? (i := 772) (by decide +kernel), List.mem_of_getElem? (i := 1041) (by decide +kernel), List.mem_of_getElem? (i := 1042) (by decide +kernel)⟩
theorem lw_p67 : lw_okq (⟨"StatuteConsolidatorModel", "parseInstruction", "(I)V"⟩, 57) := ⟨⟨by decide +kernel, by decide +kernel⟩, List.mem_of_getElem? (i := 772) (by decide +kernel), List.mem_of_getElem? (i := 1045) (by decide +kernel), List.mem_of_getElem? (i := 1046) (by decide +kernel)⟩
theorem lw_p68 : lw_okq (⟨"StatuteConsolidatorModel", "parseKeyword", "()I"⟩, 57) := ⟨⟨by decide +kernel, by decide +kernel⟩, List.mem_of_getElem? (i := 772) (by decide +kernel), List.mem_of_getElem? (i := 1049) (by decide +kernel), List.mem_of_getElem? (i := 1050) (by decide +kernel)⟩
theorem lw_p69 : lw_okq (⟨"StatuteConsolidatorModel", "parsePath", "([II)V"⟩, 57) := ⟨⟨by decide +kernel, by decide +kernel⟩, List.mem_of_getElem? (i := 772) (by decide +kernel), List.mem_of_getElem? (i := 1064) (by decide +kernel), List.mem_of_getElem? (i := 1065) (by decide +kernel)⟩
theorem lw_p70 : lw_okq (⟨"StatuteConsolidatorModel", "parseLabel", "()I"⟩, 57) := ⟨⟨by decide +kernel, by decide +kernel⟩, List.mem_of_getElem? (i := 772) (by decide +kernel), List.mem_of_getElem? (i := 1068) (by decide +kernel), List.mem_of_getElem? (i := 1069) (by decide +kernel)⟩
theorem lw_p71 : lw_okq (⟨"StatuteConsolidatorModel", "isNext", "(II)Z"⟩, 57) := ⟨⟨by decide +kernel, by decide +kernel⟩, List.mem_of_getElem? (i := 772) (by decide +kernel), List.mem_of_getElem? (i := 1072) (by decide +kernel), List.mem_of_getElem? (i := 1073) (by decide +kernel)⟩
theorem lw_p72 : lw_okq (⟨"StatuteConsolidatorModel", "accept", "(I)Z"⟩, 57) := ⟨⟨by decide +kernel, by decide +kernel⟩, List.mem_of_getElem? (i := 772) (by decide +kernel), List.mem_of_getElem? (i := 1076) (by decide +kernel), List.mem_of_getElem? (i := 1077) (by decide +kernel)⟩
theorem lw_p73 : lw_okq (⟨"StatuteConsolidatorModel", "expect", "(I)V"⟩, 57) := ⟨⟨by decide +kernel, by decide +kernel⟩, List.mem_of_getElem? (i := 772) (by decide +kernel), List.mem_of_getElem? (i := 1080) (by decide +kernel), List.mem_of_getElem? (i := 1081) (by decide +kernel)⟩
theorem lw_p74 : lw_okq (⟨"StatuteConsolidatorModel", "parseNumber", "()I"⟩, 57) := ⟨⟨by decide +kernel, by decide +kernel⟩, List.mem_of_getElem? (i := 772) (by decide +kernel), List.mem_of_getElem? (i := 1084) (by decide +kernel), List.mem_of_getElem? (i := 1085) (by decide +kernel)⟩
theorem lw_p75 : lw_okq (⟨"StatuteConsolidatorModel", "isAmendment", "(I)Z"⟩, 57) := ⟨⟨by decide +kernel, by decide +kernel⟩, List.mem_of_getElem? (i := 772) (by decide +kernel), List.mem_of_getElem? (i := 1096) (by decide +kernel), List.mem_of_getElem? (i := 1097) (by decide +kernel)⟩
theorem lw_p76 : lw_okq (⟨"StatuteConsolidatorModel", "compute", "(I)Z"⟩, 57) := ⟨⟨by decide +kernel, by decide +kernel⟩, List.mem_of_getElem? (i := 772) (by decide +kernel), List.mem_of_getElem? (i := 1112) (by decide +kernel), List.mem_of_getElem? (i := 1113) (by decide +kernel)⟩
theorem lw_p77 : lw_okq (⟨"StatuteConsolidatorModel", "nextDay", "(II)I"⟩, 57) := ⟨⟨by decide +kernel, by decide +kernel⟩, List.mem_of_getElem? (i := 772) (by decide +kernel), List.mem_of_getElem? (i := 1116) (by decide +kernel), List.mem_of_getElem? (i := 1117) (by decide +kernel)⟩
theorem lw_p78 : lw_okq (⟨"StatuteConsolidatorModel", "applyAmendment", "(I)V"⟩, 57) := ⟨⟨by decide +kernel, by decide +kernel⟩, List.mem_of_getElem? (i := 772) (by decide +kernel), List.mem_of_getElem? (i := 1120) (by decide +kernel), List.mem_of_getElem? (i := 1121) (by decide +kernel)⟩
theorem lw_p79 : lw_okq (⟨"StatuteConsolidatorModel", "apply", "(II)I"⟩, 57) := ⟨⟨by decide +kernel, by decide +kernel⟩, List.mem_of_getElem? (i := 772) (by decide +kernel), List.mem_of_getElem? (i := 1124) (by decide +kernel), List.mem_of_getElem? (i := 1125) (by decide +kernel)⟩
def lw_privs_5 : List (MethodName × Nat) := [(⟨"StatuteConsolidatorModel", "nextChild", "(II)I"⟩, 57), (⟨"StatuteConsolidatorModel", "emptyShelves", "()V"⟩, 57), (⟨"StatuteConsolidatorModel", "readAmendment", "(I)I"⟩, 57), (⟨"StatuteConsolidatorModel", "parseInstruction", "(I)V"⟩, 57), (⟨"StatuteConsolidatorModel", "parseKeyword", "()I"⟩, 57), (⟨"StatuteConsolidatorModel", "parsePath", "([II)V"⟩, 57), (⟨"StatuteConsolidatorModel", "parseLabel", "()I"⟩, 57), (⟨"StatuteConsolidatorModel", "isNext", "(II)Z"⟩, 57), (⟨"StatuteConsolidatorModel", "accept", "(I)Z"⟩, 57), (⟨"StatuteConsolidatorModel", "expect", "(I)V"⟩, 57), (⟨"StatuteConsolidatorModel", "parseNumber", "()I"⟩, 57), (⟨"StatuteConsolidatorModel", "isAmendment", "(I)Z"⟩, 57), (⟨"StatuteConsolidatorModel", "compute", "(I)Z"⟩, 57), (⟨"StatuteConsolidatorModel", "nextDay", "(II)I"⟩, 57), (⟨"StatuteConsolidatorModel", "applyAmendment", "(I)V"⟩, 57), (⟨"StatuteConsolidatorModel", "apply", "(II)I"⟩, 57)]
theorem lw_r5 : ∀ q ∈ lw_privs_5, lw_okq q := List.forall_mem_cons.mpr ⟨lw_p64, List.forall_mem_cons.mpr ⟨lw_p65, List.forall_mem_cons.mpr ⟨lw_p66, List.forall_mem_cons.mpr ⟨lw_p67, List.forall_mem_cons.mpr ⟨lw_p68, List.forall_mem_cons.mpr ⟨lw_p69, List.forall_mem_cons.mpr ⟨lw_p70, List.forall_mem_cons.mpr ⟨lw_p71, List.forall_mem_cons.mpr ⟨lw_p72, List.forall_mem_cons.mpr ⟨lw_p73, List.forall_mem_cons.mpr ⟨lw_p74, List.forall_mem_cons.mpr ⟨lw_p75, List.forall_mem_cons.mpr ⟨lw_p76, List.forall_mem_cons.mpr ⟨lw_p77, List.forall_mem_cons.mpr ⟨lw_p78, List.forall_mem_cons.mpr ⟨lw_p79, fun _ h => absurd h List.not_mem_nil⟩⟩⟩⟩⟩⟩⟩⟩⟩⟩⟩⟩⟩⟩⟩⟩
theorem lw_p80 : lw_okq (⟨"StatuteConsolidatorModel", "lookUp", "([II)I"⟩, 57) := ⟨⟨by decide +kernel, by decide +kernel⟩, List.mem_of_getElem? (i := 772) (by decide +kernel), List.mem_of_getElem? (i := 1128) (by decide +kernel), List.mem_of_getElem? (i := 1129) (by decide +kernel)⟩
theorem lw_p81 : lw_okq (⟨"StatuteConsolidatorModel", "repeal", "(I)V"⟩, 57) := ⟨⟨by decide +kernel, by decide +kernel⟩, List.mem_of_getElem? (i := 772) (by decide +kernel), List.mem_of_getElem? (i := 1132) (by decide +kernel), List.mem_of_getElem? (i := 1133) (by decide +kernel)⟩
theorem lw_p82 : lw_okq (⟨"StatuteConsolidatorModel", "isBelow", "(II)Z"⟩, 57) := ⟨⟨by decide +kernel, by decide +kernel⟩, List.mem_of_getElem? (i := 772) (by decide +kernel), List.mem_of_getElem? (i := 1136) (by decide +kernel), List.mem_of_getElem? (i := 1137) (by decide +kernel)⟩
theorem lw_p83 : lw_okq (⟨"StatuteConsolidatorModel", "renumber", "(I)V"⟩, 57) := ⟨⟨by decide +kernel, by decide +kernel⟩, List.mem_of_getElem? (i := 772) (by decide +kernel), List.mem_of_getElem? (i := 1140) (by decide +kernel), List.mem_of_getElem? (i := 1141) (by decide +kernel)⟩
theorem lw_p84 : lw_okq (⟨"StatuteConsolidatorModel", "remove", "(I)V"⟩, 57) := ⟨⟨by decide +kernel, by decide +kernel⟩, List.mem_of_getElem? (i := 772) (by decide +kernel), List.mem_of_getElem? (i := 1144) (by decide +kernel), List.mem_of_getElem? (i := 1145) (by decide +kernel)⟩
theorem lw_p85 : lw_okq (⟨"StatuteConsolidatorModel", "move", "(II)I"⟩, 57) := ⟨⟨by decide +kernel, by decide +kernel⟩, List.mem_of_getElem? (i := 772) (by decide +kernel), List.mem_of_getElem? (i := 1148) (by decide +kernel), List.mem_of_getElem? (i := 1149) (by decide +kernel)⟩
theorem lw_p86 : lw_okq (⟨"StatuteConsolidatorModel", "orderVersion", "()V"⟩, 57) := ⟨⟨by decide +kernel, by decide +kernel⟩, List.mem_of_getElem? (i := 772) (by decide +kernel), List.mem_of_getElem? (i := 1152) (by decide +kernel), List.mem_of_getElem? (i := 1153) (by decide +kernel)⟩
theorem lw_p87 : lw_okq (⟨"StatuteConsolidatorModel", "orderChildren", "(I)V"⟩, 57) := ⟨⟨by decide +kernel, by decide +kernel⟩, List.mem_of_getElem? (i := 772) (by decide +kernel), List.mem_of_getElem? (i := 1156) (by decide +kernel), List.mem_of_getElem? (i := 1157) (by decide +kernel)⟩
theorem lw_p88 : lw_okq (⟨"StatuteConsolidatorModel", "reach", "(II)I"⟩, 57) := ⟨⟨by decide +kernel, by decide +kernel⟩, List.mem_of_getElem? (i := 772) (by decide +kernel), List.mem_of_getElem? (i := 1164) (by decide +kernel), List.mem_of_getElem? (i := 1165) (by decide +kernel)⟩
theorem lw_p89 : lw_okq (⟨"StatuteConsolidatorModel", "writePath", "(I)V"⟩, 57) := ⟨⟨by decide +kernel, by decide +kernel⟩, List.mem_of_getElem? (i := 772) (by decide +kernel), List.mem_of_getElem? (i := 1180) (by decide +kernel), List.mem_of_getElem? (i := 1181) (by decide +kernel)⟩
theorem lw_p90 : lw_okq (⟨"StatuteConsolidatorModel", "writeLabel", "(I)V"⟩, 57) := ⟨⟨by decide +kernel, by decide +kernel⟩, List.mem_of_getElem? (i := 772) (by decide +kernel), List.mem_of_getElem? (i := 1184) (by decide +kernel), List.mem_of_getElem? (i := 1185) (by decide +kernel)⟩
theorem lw_p91 : lw_okq (⟨"StatuteConsolidatorModel", "write", "(I)V"⟩, 57) := ⟨⟨by decide +kernel, by decide +kernel⟩, List.mem_of_getElem? (i := 772) (by decide +kernel), List.mem_of_getElem? (i := 1188) (by decide +kernel), List.mem_of_getElem? (i := 1189) (by decide +kernel)⟩
theorem lw_p92 : lw_okq (⟨"StatuteConsolidatorModel", "positionOf", "(I)I"⟩, 57) := ⟨⟨by decide +kernel, by decide +kernel⟩, List.mem_of_getElem? (i := 772) (by decide +kernel), List.mem_of_getElem? (i := 1208) (by decide +kernel), List.mem_of_getElem? (i := 1209) (by decide +kernel)⟩
theorem lw_p93 : lw_okq (⟨"StatuteConsolidatorModel", "keep", "()V"⟩, 57) := ⟨⟨by decide +kernel, by decide +kernel⟩, List.mem_of_getElem? (i := 772) (by decide +kernel), List.mem_of_getElem? (i := 1216) (by decide +kernel), List.mem_of_getElem? (i := 1217) (by decide +kernel)⟩
theorem lw_p94 : lw_okq (⟨"StatuteConsolidatorModel", "labelAt", "(II)I"⟩, 57) := ⟨⟨by decide +kernel, by decide +kernel⟩, List.mem_of_getElem? (i := 772) (by decide +kernel), List.mem_of_getElem? (i := 1220) (by decide +kernel), List.mem_of_getElem? (i := 1221) (by decide +kernel)⟩
theorem lw_p95 : lw_okq (⟨"StatuteConsolidatorModel", "firstUnlike", "(Z)I"⟩, 57) := ⟨⟨by decide +kernel, by decide +kernel⟩, List.mem_of_getElem? (i := 772) (by decide +kernel), List.mem_of_getElem? (i := 1224) (by decide +kernel), List.mem_of_getElem? (i := 1225) (by decide +kernel)⟩
def lw_privs_6 : List (MethodName × Nat) := [(⟨"StatuteConsolidatorModel", "lookUp", "([II)I"⟩, 57), (⟨"StatuteConsolidatorModel", "repeal", "(I)V"⟩, 57), (⟨"StatuteConsolidatorModel", "isBelow", "(II)Z"⟩, 57), (⟨"StatuteConsolidatorModel", "renumber", "(I)V"⟩, 57), (⟨"StatuteConsolidatorModel", "remove", "(I)V"⟩, 57), (⟨"StatuteConsolidatorModel", "move", "(II)I"⟩, 57), (⟨"StatuteConsolidatorModel", "orderVersion", "()V"⟩, 57), (⟨"StatuteConsolidatorModel", "orderChildren", "(I)V"⟩, 57), (⟨"StatuteConsolidatorModel", "reach", "(II)I"⟩, 57), (⟨"StatuteConsolidatorModel", "writePath", "(I)V"⟩, 57), (⟨"StatuteConsolidatorModel", "writeLabel", "(I)V"⟩, 57), (⟨"StatuteConsolidatorModel", "write", "(I)V"⟩, 57), (⟨"StatuteConsolidatorModel", "positionOf", "(I)I"⟩, 57), (⟨"StatuteConsolidatorModel", "keep", "()V"⟩, 57), (⟨"StatuteConsolidatorModel", "labelAt", "(II)I"⟩, 57), (⟨"StatuteConsolidatorModel", "firstUnlike", "(Z)I"⟩, 57)]
theorem lw_r6 : ∀ q ∈ lw_privs_6, lw_okq q := List.forall_mem_cons.mpr ⟨lw_p80, List.forall_mem_cons.mpr ⟨lw_p81, List.forall_mem_cons.mpr ⟨lw_p82, List.forall_mem_cons.mpr ⟨lw_p83, List.forall_mem_cons.mpr ⟨lw_p84, List.forall_mem_cons.mpr ⟨lw_p85, List.forall_mem_cons.mpr ⟨lw_p86, List.forall_mem_cons.mpr ⟨lw_p87, List.forall_mem_cons.mpr ⟨lw_p88, List.forall_mem_cons.mpr ⟨lw_p89, List.forall_mem_cons.mpr ⟨lw_p90, List.forall_mem_cons.mpr ⟨lw_p91, List.forall_mem_cons.mpr ⟨lw_p92, List.forall_mem_cons.mpr ⟨lw_p93, List.forall_mem_cons.mpr ⟨lw_p94, List.forall_mem_cons.mpr ⟨lw_p95, fun _ h => absurd h List.not_mem_nil⟩⟩⟩⟩⟩⟩⟩⟩⟩⟩⟩⟩⟩⟩⟩⟩
theorem lw_p96 : lw_okq (⟨"StatuteConsolidatorModel", "isKept", "(IZ)Z"⟩, 57) := ⟨⟨by decide +kernel, by decide +kernel⟩, List.mem_of_getElem? (i := 772) (by decide +kernel), List.mem_of_getElem? (i := 1228) (by decide +kernel), List.mem_of_getElem? (i := 1229) (by decide +kernel)⟩
theorem lw_p97 : lw_okq (⟨"StatuteConsolidatorModel", "referencesOf", "(I)I"⟩, 57) := ⟨⟨by decide +kernel, by decide +kernel⟩, List.mem_of_getElem? (i := 772) (by decide +kernel), List.mem_of_getElem? (i := 1240) (by decide +kernel), List.mem_of_getElem? (i := 1241) (by decide +kernel)⟩
theorem lw_p98 : lw_okq (⟨"StatuteConsolidatorModel", "isDangling", "(I)Z"⟩, 57) := ⟨⟨by decide +kernel, by decide +kernel⟩, List.mem_of_getElem? (i := 772) (by decide +kernel), List.mem_of_getElem? (i := 1248) (by decide +kernel), List.mem_of_getElem? (i := 1249) (by decide +kernel)⟩
theorem lw_p99 : lw_okq (⟨"StatuteConsolidatorModel", "reachConflict", "(II)I"⟩, 57) := ⟨⟨by decide +kernel, by decide +kernel⟩, List.mem_of_getElem? (i := 772) (by decide +kernel), List.mem_of_getElem? (i := 1264) (by decide +kernel), List.mem_of_getElem? (i := 1265) (by decide +kernel)⟩
theorem lw_p100 : lw_okq (⟨"StatuteConsolidatorModel", "exchangeAll", "(Z)V"⟩, 57) := ⟨⟨by decide +kernel, by decide +kernel⟩, List.mem_of_getElem? (i := 772) (by decide +kernel), List.mem_of_getElem? (i := 1329) (by decide +kernel), List.mem_of_getElem? (i := 1330) (by decide +kernel)⟩
def lw_privs_7 : List (MethodName × Nat) := [(⟨"StatuteConsolidatorModel", "isKept", "(IZ)Z"⟩, 57), (⟨"StatuteConsolidatorModel", "referencesOf", "(I)I"⟩, 57), (⟨"StatuteConsolidatorModel", "isDangling", "(I)Z"⟩, 57), (⟨"StatuteConsolidatorModel", "reachConflict", "(II)I"⟩, 57), (⟨"StatuteConsolidatorModel", "exchangeAll", "(Z)V"⟩, 57)]
theorem lw_r7 : ∀ q ∈ lw_privs_7, lw_okq q := List.forall_mem_cons.mpr ⟨lw_p96, List.forall_mem_cons.mpr ⟨lw_p97, List.forall_mem_cons.mpr ⟨lw_p98, List.forall_mem_cons.mpr ⟨lw_p99, List.forall_mem_cons.mpr ⟨lw_p100, fun _ h => absurd h List.not_mem_nil⟩⟩⟩⟩⟩
def lw_privs : List (MethodName × Nat) := lw_privs_1 ++ (lw_privs_2 ++ (lw_privs_3 ++ (lw_privs_4 ++ (lw_privs_5 ++ (lw_privs_6 ++ (lw_privs_7))))))
def lw_tbl : List Cond := k2_sels lw_privs ++ tables_1
theorem lw_privs_ok : ∀ q ∈ lw_privs, lw_okq q := by
  show ∀ q ∈ lw_privs_1 ++ (lw_privs_2 ++ (lw_privs_3 ++ (lw_privs_4 ++ (lw_privs_5 ++ (lw_privs_6 ++ (lw_privs_7)))))), lw_okq q
  exact List.forall_mem_append.mpr ⟨lw_r1, List.forall_mem_append.mpr ⟨lw_r2, List.forall_mem_append.mpr ⟨lw_r3, List.forall_mem_append.mpr ⟨lw_r4, List.forall_mem_append.mpr ⟨lw_r5, List.forall_mem_append.mpr ⟨lw_r6, lw_r7⟩⟩⟩⟩⟩⟩
/-- the streams that the claim lets the run draw from -/
abbrev lw_cs : List Choice := [Jvm.Choice.named "NaN.bits"]
theorem lw_bits : nanBits ∈ lw_cs := by first | decide | exact List.mem_cons_self | simp [lw_cs, nanBits]
-- ===== end of PART A; then your names; then what follows =====
/-! THE CLAIM OUT OF ONE WALK OF THE LAW'S BODY. Your part is whole_start (and what it stands on); all else here is the same for every law, but numbers. -/
def R_law : String := "StatuteConsolidatorLaw"
def lw_P (b : Addr) (xs : List Int32) (args : Array Value) (s : State) : Prop := args = #[.ref b] ∧ s.IntsAt b xs ∧ xs.length ≤ 2048 ∧ (Jvm.Cond.and given_1 narrow_1).before args s = true
/-- what a walk over the start with the record d0 says of its end, said of the start itself -/
theorem lw_closed {s t : State} {o : Outcome} {d0 : Drawn} {L : List Loc} {k n : Nat} (hd0 : s.drawn.sameBut d0 lw_cs) (hv : ∃ v, o = .returned v) (hW : (s.setDrawn d0).WarmedH t.vm) (hs : (s.setDrawn d0).sameButNew ({ t with vm := s.vm } : State) L k n) : State.butDraws s t lw_cs (fun t1 => Framed s o t1 L k n) := by
  have h2 : t.drawn = d0 := congrArg State.drawn hs.1
  refine ⟨⟨hv, hW, State.sameButNew.setDrawn hs s.drawn⟩, ?_, by decide⟩
  rw [h2]
  exact hd0
def lw_Q (_ : Array Value) (s : State) (o : Outcome) (t : State) : Prop := o = .returned (some (.int 1)) ∧ State.butDraws s t lw_cs (fun t1 => Framed s o t1 [] 600000 7302250)
def lw_Z (below : List Frame) (a : Array Value) (s : State) : State → Prop := fun t => ∃ o, t.status = .running ∧ Ended t below o ∧ lw_Q a s o t
/-- the law's own end, with 1 on the stack, nothing written that was there before, its room as the claim has it; d0: the record of draws at this point (at the entry s.drawn: begin with 'refine W.base ?_' and 'have hd0 := Drawn.sameBut.refl s.drawn lw_cs') -/
theorem lw_ret {p : Program} {l : Launch} {e : Env} {s : State} {m : MethodId} {below : List Frame} {meth : Method} {c : Code} {b : Nat} {d0 : Drawn} (hd0 : s.drawn.sameBut d0 lw_cs) (hx : p.tables.exec = Jvm.exec) (hb : c.code = code) (hr : meth.sig.returnType = ret) (hlocks : meth.locks = false) {pc : Nat} {H : Heap} {ls : Array Slot} (hdg : decode code pc = .ok (.ireturn, 1)) : W p l e room_1 (s.setDrawn d0) m #[Value.ref b] below meth c H [] 600000 7302250 (lw_Z below #[Value.ref b] s) (F0 m pc ls [.int 1]) := by
  intro T hT X
  obtain ⟨fs, hret, hrun, hended, hW, hframe⟩ := X.leave (v := some (.int 1)) (hlocks := hlocks) (fun h => by rw [hr] at h; cases h)
  have hmeth' : T.vm.method? m = some meth := X.method'
  refine ⟨T.setFrames fs, ?_, .returned (some (.int 1)), hrun, hended, rfl, lw_closed hd0 ⟨_, rfl⟩ hW hframe⟩
  jvm_step X.here [X.here.top, hx, hb, hdg, hmeth', hr, ret, narrow_b1]
  (try refine ⟨rfl, ?_⟩); (try refine ⟨rfl, ?_⟩)
  first | (intro acts; rw [hret _ acts rfl rfl rfl]) | rw [hret _ _ rfl rfl rfl]
  exact Steps.refl _
/-- what holds at the law's entry: the machine, the code, the tables' words (any of lw_tbl by 'hts w (by decide +kernel)'), the script of L ints xs at the cell b, what the Statement gives of the start (any of its parts by flat_of_before) -/
def lw_At (p : Program) (s : State) (m : MethodId) (meth : Method) (c : Code) (b L : Nat) (xs : Nat → Int32) : Prop :=
  p.tables.exec = Jvm.exec ∧ c.code = code ∧ meth.sig.returnType = ret ∧ c.maxLocals = 4 ∧ s.vm.findClass R_law = some m.cls ∧ (∀ w ∈ lw_tbl, w.before #[Value.ref b] s = true) ∧ va_X b L xs s s.heap ∧ b < s.heap.size ∧ meth.locks = false ∧ (Jvm.Cond.and given_1 narrow_1).before #[Value.ref b] s = true
end
section
/-! names: classes and their fields -/
def zT_am : u_T := fun k => match k with
  | 0 => ("StatuteConsolidator$Amendments", "count", "I", false)
  | 1 => ("StatuteConsolidator$Amendments", "days", "[I", true)
  | 2 => ("StatuteConsolidator$Amendments", "sizes", "[I", true)
  | 3 => ("StatuteConsolidator$Amendments", "kinds", "[I", true)
  | 4 => ("StatuteConsolidator$Amendments", "paths", "[J", true)
  | 5 => ("StatuteConsolidator$Amendments", "goals", "[J", true)
  | _ => ("StatuteConsolidator$Amendments", "texts", "[I", true)
def zt_am : Nat → FieldType := fun k => match k with
  | 0 => .int
  | 1 => .array .int
  | 2 => .array .int
  | 3 => .array .int
  | 4 => .array .long
  | 5 => .array .long
  | _ => .array .int
def zT_inp : u_T := fun k => match k with
  | 0 => ("StatuteConsolidator$Input", "characters", "[I", true)
  | 1 => ("StatuteConsolidator$Input", "length", "I", false)
  | _ => ("StatuteConsolidator$Input", "position", "I", false)
def zt_inp : Nat → FieldType := fun k => match k with
  | 0 => .array .int
  | 1 => .int
  | _ => .int
def zT_pv : u_T := fun k => match k with
  | 0 => ("StatuteConsolidator$Provisions", "count", "I", false)
  | 1 => ("StatuteConsolidator$Provisions", "paths", "[J", true)
  | 2 => ("StatuteConsolidator$Provisions", "texts", "[I", true)
  | 3 => ("StatuteConsolidator$Provisions", "repealed", "[Z", true)
  | 4 => ("StatuteConsolidator$Provisions", "origins", "[I", true)
  | _ => ("StatuteConsolidator$Provisions", "creators", "[I", true)
def zt_pv : Nat → FieldType := fun k => match k with
  | 0 => .int
  | 1 => .array .long
  | 2 => .array .int
  | 3 => .array .boolean
  | 4 => .array .int
  | _ => .array .int
def zT_sh : u_T := fun k => match k with
  | 0 => ("StatuteConsolidator$Shelves", "filled", "[Z", true)
  | 1 => ("StatuteConsolidator$Shelves", "types", "[I", true)
  | 2 => ("StatuteConsolidator$Shelves", "lengths", "[I", true)
  | _ => ("StatuteConsolidator$Shelves", "elements", "[[I", true)
def zt_sh : Nat → FieldType := fun k => match k with
  | 0 => .array .boolean
  | 1 => .array .int
  | 2 => .array .int
  | _ => .array (.array .int)
def zT_sta : u_T := fun k => match k with
  | 0 => ("StatuteConsolidator$Statute", "original", "LStatuteConsolidator$Provisions;", true)
  | 1 => ("StatuteConsolidator$Statute", "referenceCounts", "[I", true)
  | 2 => ("StatuteConsolidator$Statute", "targets", "[[I", true)
  | _ => ("StatuteConsolidator$Statute", "amendments", "LStatuteConsolidator$Amendments;", true)
def zt_sta : Nat → FieldType := fun k => match k with
  | 0 => .object "StatuteConsolidator$Provisions"
  | 1 => .array .int
  | 2 => .array (.array .int)
  | _ => .object "StatuteConsolidator$Amendments"
def zT_ver : u_T := fun k => match k with
  | 0 => ("StatuteConsolidator$Version", "provisions", "LStatuteConsolidator$Provisions;", true)
  | 1 => ("StatuteConsolidator$Version", "conflicts", "I", false)
  | 2 => ("StatuteConsolidator$Version", "conflictAmendments", "[I", true)
  | 3 => ("StatuteConsolidator$Version", "conflictInstructions", "[I", true)
  | _ => ("StatuteConsolidator$Version", "conflictReasons", "[I", true)
def zt_ver : Nat → FieldType := fun k => match k with
  | 0 => .object "StatuteConsolidator$Provisions"
  | 1 => .int
  | 2 => .array .int
  | 3 => .array .int
  | _ => .array .int
def zT_sc : u_T := fun k => match k with
  | 0 => ("StatuteConsolidator", "statute", "LStatuteConsolidator$Statute;", true)
  | 1 => ("StatuteConsolidator", "snapshot", "LStatuteConsolidator$Statute;", true)
  | 2 => ("StatuteConsolidator", "snapshotSaved", "Z", false)
  | 3 => ("StatuteConsolidator", "input", "LStatuteConsolidator$Input;", true)
  | 4 => ("StatuteConsolidator", "shelves", "LStatuteConsolidator$Shelves;", true)
  | 5 => ("StatuteConsolidator", "version", "LStatuteConsolidator$Version;", true)
  | _ => ("StatuteConsolidator", "otherVersion", "LStatuteConsolidator$Version;", true)
def zt_sc : Nat → FieldType := fun k => match k with
  | 0 => .object "StatuteConsolidator$Statute"
  | 1 => .object "StatuteConsolidator$Statute"
  | 2 => .boolean
  | 3 => .object "StatuteConsolidator$Input"
  | 4 => .object "StatuteConsolidator$Shelves"
  | 5 => .object "StatuteConsolidator$Version"
  | _ => .object "StatuteConsolidator$Version"
def zT_mo : u_T := fun k => match k with
  | 0 => ("StatuteConsolidatorModel", "parent", "[I", true)
  | 1 => ("StatuteConsolidatorModel", "label", "[I", true)
  | 2 => ("StatuteConsolidatorModel", "text", "[I", true)
  | 3 => ("StatuteConsolidatorModel", "referenceCount", "[I", true)
  | 4 => ("StatuteConsolidatorModel", "references", "[I", true)
  | 5 => ("StatuteConsolidatorModel", "originals", "I", false)
  | 6 => ("StatuteConsolidatorModel", "amendmentDay", "[I", true)
  | 7 => ("StatuteConsolidatorModel", "instructionCount", "[I", true)
  | 8 => ("StatuteConsolidatorModel", "kind", "[I", true)
  | 9 => ("StatuteConsolidatorModel", "number", "[I", true)
  | 10 => ("StatuteConsolidatorModel", "paths", "[I", true)
  | 11 => ("StatuteConsolidatorModel", "amendments", "I", false)
  | 12 => ("StatuteConsolidatorModel", "nodeParent", "[I", true)
  | 13 => ("StatuteConsolidatorModel", "nodeLevel", "[I", true)
  | 14 => ("StatuteConsolidatorModel", "nodeLabel", "[I", true)
  | 15 => ("StatuteConsolidatorModel", "nodeText", "[I", true)
  | 16 => ("StatuteConsolidatorModel", "nodeOrigin", "[I", true)
  | 17 => ("StatuteConsolidatorModel", "nodeCreator", "[I", true)
  | 18 => ("StatuteConsolidatorModel", "isRepealed", "[Z", true)
  | 19 => ("StatuteConsolidatorModel", "isPresent", "[Z", true)
  | 20 => ("StatuteConsolidatorModel", "nodes", "I", false)
  | 21 => ("StatuteConsolidatorModel", "present", "I", false)
  | 22 => ("StatuteConsolidatorModel", "order", "[I", true)
  | 23 => ("StatuteConsolidatorModel", "conflictAmendment", "[I", true)
  | 24 => ("StatuteConsolidatorModel", "conflictInstruction", "[I", true)
  | 25 => ("StatuteConsolidatorModel", "conflictReason", "[I", true)
  | 26 => ("StatuteConsolidatorModel", "conflicts", "I", false)
  | 27 => ("StatuteConsolidatorModel", "input", "[I", true)
  | 28 => ("StatuteConsolidatorModel", "length", "I", false)
  | 29 => ("StatuteConsolidatorModel", "placed", "I", false)
  | 30 => ("StatuteConsolidatorModel", "at", "I", false)
  | 31 => ("StatuteConsolidatorModel", "isWrong", "Z", false)
  | 32 => ("StatuteConsolidatorModel", "renumbered", "[I", true)
  | 33 => ("StatuteConsolidatorModel", "written", "[I", true)
  | 34 => ("StatuteConsolidatorModel", "writtenLength", "I", false)
  | 35 => ("StatuteConsolidatorModel", "sought", "[I", true)
  | 36 => ("StatuteConsolidatorModel", "keptLabels", "[I", true)
  | 37 => ("StatuteConsolidatorModel", "keptTexts", "[I", true)
  | 38 => ("StatuteConsolidatorModel", "keptOrigins", "[I", true)
  | 39 => ("StatuteConsolidatorModel", "keptRepealed", "[Z", true)
  | 40 => ("StatuteConsolidatorModel", "keptCount", "I", false)
  | 41 => ("StatuteConsolidatorModel", "shelfType", "[I", true)
  | 42 => ("StatuteConsolidatorModel", "shelfLength", "[I", true)
  | 43 => ("StatuteConsolidatorModel", "elements", "[I", true)
  | 44 => ("StatuteConsolidatorModel", "savedParent", "[I", true)
  | 45 => ("StatuteConsolidatorModel", "savedLabel", "[I", true)
  | 46 => ("StatuteConsolidatorModel", "savedText", "[I", true)
  | 47 => ("StatuteConsolidatorModel", "savedReferenceCount", "[I", true)
  | 48 => ("StatuteConsolidatorModel", "savedReferences", "[I", true)
  | 49 => ("StatuteConsolidatorModel", "savedDay", "[I", true)
  | 50 => ("StatuteConsolidatorModel", "savedInstructionCount", "[I", true)
  | 51 => ("StatuteConsolidatorModel", "savedKind", "[I", true)
  | 52 => ("StatuteConsolidatorModel", "savedNumber", "[I", true)
  | 53 => ("StatuteConsolidatorModel", "savedPaths", "[I", true)
  | 54 => ("StatuteConsolidatorModel", "savedOriginals", "I", false)
  | 55 => ("StatuteConsolidatorModel", "savedAmendments", "I", false)
  | _ => ("StatuteConsolidatorModel", "hasSnapshot", "Z", false)
def zt_mo : Nat → FieldType := fun k => match k with
  | 0 => .array .int
  | 1 => .array .int
  | 2 => .array .int
  | 3 => .array .int
  | 4 => .array .int
  | 5 => .int
  | 6 => .array .int
  | 7 => .array .int
  | 8 => .array .int
  | 9 => .array .int
  | 10 => .array .int
  | 11 => .int
  | 12 => .array .int
  | 13 => .array .int
  | 14 => .array .int
  | 15 => .array .int
  | 16 => .array .int
  | 17 => .array .int
  | 18 => .array .boolean
  | 19 => .array .boolean
  | 20 => .int
  | 21 => .int
  | 22 => .array .int
  | 23 => .array .int
  | 24 => .array .int
  | 25 => .array .int
  | 26 => .int
  | 27 => .array .int
  | 28 => .int
  | 29 => .int
  | 30 => .int
  | 31 => .boolean
  | 32 => .array .int
  | 33 => .array .int
  | 34 => .int
  | 35 => .array .int
  | 36 => .array .int
  | 37 => .array .int
  | 38 => .array .int
  | 39 => .array .boolean
  | 40 => .int
  | 41 => .array .int
  | 42 => .array .int
  | 43 => .array .int
  | 44 => .array .int
  | 45 => .array .int
  | 46 => .array .int
  | 47 => .array .int
  | 48 => .array .int
  | 49 => .array .int
  | 50 => .array .int
  | 51 => .array .int
  | 52 => .array .int
  | 53 => .array .int
  | 54 => .int
  | 55 => .int
  | _ => .boolean
def zCl : List vw_C := [("StatuteConsolidator$Amendments", zT_am, 7), ("StatuteConsolidator$Input", zT_inp, 3), ("StatuteConsolidator$Provisions", zT_pv, 6), ("StatuteConsolidator$Shelves", zT_sh, 4), ("StatuteConsolidator$Statute", zT_sta, 4), ("StatuteConsolidator$Version", zT_ver, 5), ("StatuteConsolidator", zT_sc, 7), ("StatuteConsolidatorModel", zT_mo, 57)]
def zTt : Nat → Nat → FieldType := fun c => match c with
  | 0 => zt_am
  | 1 => zt_inp
  | 2 => zt_pv
  | 3 => zt_sh
  | 4 => zt_sta
  | 5 => zt_ver
  | 6 => zt_sc
  | _ => zt_mo
end
section
/-! THE SMALL MACHINE'S JUDGEMENT: a walk over a list of cells at fixed places. Z says: from this place of this method, with these locals, this stack and these cells, the machine comes to the end that Φ names. -/
/-- launch, heap size at the law's entry, classes and slots, array classes, special references, the script, the texts' cells and byte rows -/
abbrev zCtx : Type := Launch × Nat × va_G × (Nat → ClassId) × (Nat → Value) × (Nat × Nat × (Nat → Int32)) × (Nat → Nat) × (Nat → Nat)
def zL (Γ : zCtx) : Launch := Γ.1
def zSz (Γ : zCtx) : Nat := Γ.2.1
def zD (Γ : zCtx) : va_G := Γ.2.2.1
def zAr (Γ : zCtx) : Nat → ClassId := Γ.2.2.2.1
def zSp (Γ : zCtx) : Nat → Value := Γ.2.2.2.2.1
def zScr (Γ : zCtx) : Nat × Nat × (Nat → Int32) := Γ.2.2.2.2.2.1
def zKs (Γ : zCtx) : Nat → Nat := Γ.2.2.2.2.2.2.1
def zVs (Γ : zCtx) : Nat → Nat := Γ.2.2.2.2.2.2.2
def zA (Γ : zCtx) : Nat → Prop := fun q => zSz Γ ≤ q
/-- the words that every method is given -/
def zG : List Cond := lw_tbl.filter goodWord
def zNestB : Cond → Bool
  | .fieldLinkNest .. => true
  | .methodLinkNest .. => true
  | _ => false
def zN : List Cond := tables_1.filter zNestB
theorem zG_good {w : Cond} (h : w ∈ zG) : goodWord w = true := (List.mem_filter.mp h).2
theorem zG_of {w : Cond} (i : Nat) (h : tables_1[i]? = some w) (hg : goodWord w = true) : w ∈ zG := List.mem_filter.mpr ⟨List.mem_append_right _ (List.mem_of_getElem? h), hg⟩
theorem zG_sel {w : Cond} (i : Nat) (h : (k2_sels lw_privs)[i]? = some w) (hg : goodWord w = true) : w ∈ zG := List.mem_filter.mpr ⟨List.mem_append_left _ (List.mem_of_getElem? h), hg⟩
theorem zN_of {w : Cond} (i : Nat) (h : tables_1[i]? = some w) (hg : zNestB w = true) : w ∈ zN := List.mem_filter.mpr ⟨List.mem_of_getElem? h, hg⟩
theorem zG_in (c : Cond) (hc : c ∈ zG) (big : List Cond) (hb : ∀ w ∈ zG, w ∈ big) : GoodIn big (c :: zG) := by
  intro w hw
  rcases List.mem_cons.mp hw with rfl | hw
  · exact ⟨hb _ hc, good_of_word (zG_good hc)⟩
  · exact ⟨hb _ hw, good_of_word (zG_good hw)⟩
/-- array kinds -/
def zTy : Nat → FieldType := fun t => match t with
  | 0 => .int
  | 1 => .long
  | 2 => .boolean
  | _ => .array .int
def zTys (Γ : zCtx) : List (ClassId × FieldType) := [(zAr Γ 0, .int), (zAr Γ 1, .long), (zAr Γ 2, .boolean), (zAr Γ 3, .array .int)]
/-- a value as the machine has it -/
def zv (Γ : zCtx) (v : Value) : Value := match v with
  | .ref k => if k < 1000000 then .ref (zSz Γ + k) else zSp Γ (k - 1000000)
  | v => v
abbrev zE : Type := (Nat × vp_A) ⊕ (Nat × List Value)
def zc (Γ : zCtx) : zE → va_E
  | .inl (t, n, .inr (.inr (.inr (.inr f)))) => .inl (zAr Γ t, n, .inr (.inr (.inr (.inr (fun i => (f i).map (fun k => zSz Γ + k))))))
  | .inl (t, a) => .inl (zAr Γ t, a)
  | .inr (c, fs) => .inr (c, fs.map (zv Γ))
def zw (Γ : zCtx) (M : List zE) : va_W := M.mapIdx (fun k c => (zSz Γ + k, zc Γ c))
theorem zv_ref {Γ : zCtx} {k : Nat} (h : k < 1000000) : zv Γ (.ref k) = .ref (zSz Γ + k) := if_pos h
theorem zw_get {Γ : zCtx} {M : List zE} {k : Nat} {c : zE} (h : M[k]? = some c) : (zw Γ M)[k]? = some (zSz Γ + k, zc Γ c) := by
  simp [zw, List.getElem?_mapIdx, h]
theorem zw_set {Γ : zCtx} {M : List zE} {k : Nat} {c : zE} : zw Γ (M.set k c) = (zw Γ M).set k (zSz Γ + k, zc Γ c) := by
  apply List.ext_getElem?
  intro i
  simp only [zw, List.getElem?_mapIdx, List.getElem?_set, List.length_mapIdx]
  by_cases h : k = i
  · subst h
    by_cases h2 : k < M.length
    · simp [h2]
    · simp [h2]
  · simp [h]
theorem zw_app {Γ : zCtx} {M : List zE} {c : zE} : zw Γ (M ++ [c]) = zw Γ M ++ [(zSz Γ + M.length, zc Γ c)] := by
  simp [zw, List.mapIdx_append]
theorem zw_at {Γ : zCtx} {M : List zE} {k : Nat} {q : Nat × va_E} (h : (zw Γ M)[k]? = some q) : k < M.length ∧ q.1 = zSz Γ + k := by
  simp only [zw, List.getElem?_mapIdx, Option.map_eq_some_iff] at h
  obtain ⟨c, h1, h2⟩ := h
  exact ⟨(List.getElem?_eq_some_iff.mp h1).1, by rw [← h2]⟩
theorem zw_D (Γ : zCtx) (M : List zE) : va_D (zA Γ) (zw Γ M) := by
  refine ⟨fun i j x y hi hj hxy => ?_, fun k q hk => ?_⟩
  · have h1 := (zw_at hi).2
    have h2 := (zw_at hj).2
    omega
  · have h1 := (zw_at hk).2
    show zSz Γ ≤ q.1
    omega
theorem z_lt {M : List zE} {k : Nat} {c : zE} (h : M[k]? = some c) : k < M.length := (List.getElem?_eq_some_iff.mp h).1
/-- locals: what is known of each place -/
def zLs (Γ : zCtx) (la : Array Slot) (nL : Nat) (ls : List (Option Value)) : Prop := la.size = nL ∧ lv_wf la ∧ ∀ (i : Nat) (v : Value), ls[i]? = some (some v) → la[i]? = some (.val (zv Γ v))
/-- the texts: owner class, entry, text, bytes -/
def zStr : List (String × Nat × String × List Int32) := [("StatuteConsolidator$Input", 79, "insert", [105, 110, 115, 101, 114, 116]), ("StatuteConsolidator$Input", 81, "add", [97, 100, 100]), ("StatuteConsolidator$Input", 83, "replace", [114, 101, 112, 108, 97, 99, 101]), ("StatuteConsolidator$Input", 85, "repeal", [114, 101, 112, 101, 97, 108]), ("StatuteConsolidator$Input", 87, "move", [109, 111, 118, 101]), ("StatuteConsolidator$Input", 89, "renumber", [114, 101, 110, 117, 109, 98, 101, 114]), ("StatuteConsolidatorModel", 239, "insert ", [105, 110, 115, 101, 114, 116, 32]), ("StatuteConsolidatorModel", 241, "add ", [97, 100, 100, 32]), ("StatuteConsolidatorModel", 243, "replace ", [114, 101, 112, 108, 97, 99, 101, 32]), ("StatuteConsolidatorModel", 245, "repeal ", [114, 101, 112, 101, 97, 108, 32]), ("StatuteConsolidatorModel", 247, "move ", [109, 111, 118, 101, 32]), ("StatuteConsolidatorModel", 249, "renumber ", [114, 101, 110, 117, 109, 98, 101, 114, 32])]
/-- what holds of the tables, and of the cells that no method writes -/
def zKB (Γ : zCtx) (U : State) : Prop :=
  va_K (zD Γ) zCl (zTys Γ) U ∧ (∀ w ∈ zN, va_Nw w U) ∧ (∀ (i : Nat) (q : String × Nat × String × List Int32), zStr[i]? = some q → vk_R q.1 q.2.1 q.2.2.1 (zKs Γ i) U) ∧
  vk_S 12 (zStr.map (fun q => q.2.2.2.length)) (zStr.map (fun q => q.2.2.2)) (zKs Γ) (zVs Γ) (zA Γ) U U.heap ∧
  va_X (zScr Γ).1 (zScr Γ).2.1 (zScr Γ).2.2 U U.heap ∧ va_Z "java/lang/String" "COMPACT_STRINGS" "Z" (.int 1) (zA Γ) U U.heap ∧ va_Z "jdk/internal/util/Preconditions" "SIOOBE_FORMATTER" "Ljava/util/function/BiFunction;" (zSp Γ 200) (zA Γ) U U.heap ∧
  (zScr Γ).1 < zSz Γ ∧ zSz Γ ≤ U.heap.size ∧ zSp Γ 0 = .ref (zScr Γ).1 ∧ ((∀ i, i < 12 → zSp Γ (1 + i) = .ref (zKs Γ i) ∧ zSp Γ (101 + i) = .ref (zVs Γ i)) ∧ (Cond.arrayOver (.array .int)).before #[] U = true) ∧ (∀ k, zSp Γ k = .null ∨ ∃ a, zSp Γ k = .ref a)
theorem zN_warm {w : Cond} (hw : w ∈ zN) {s U : State} (hW : s.WarmedH U.vm) (h : va_Nw w s) : va_Nw w U := by
  have h1 := (List.mem_filter.mp hw).2
  cases w <;> first | exact va_Nw.warmF hW h | exact va_Nw.warmM hW h | (simp [zNestB] at h1)
theorem zKB.to {Γ : zCtx} {u U : State} (hW : u.WarmedH U.vm) (hH : ∀ q : Nat, q < u.heap.size → ¬ zA Γ q → U.heap[q]? = u.heap[q]?) (hz : zSz Γ ≤ U.heap.size) (h : zKB Γ u) : zKB Γ U := by
  obtain ⟨h1, h2, h3, h4, h5, h6, h7, h8, h9, h10, ⟨h11, hao⟩, h12⟩ := h
  have hb : ¬ zA Γ (zScr Γ).1 := Nat.not_le.mpr h8
  exact ⟨h1.moved hW.alike, fun w hw => zN_warm hw hW (h2 w hw), fun i q hq => (h3 i q hq).warm hW, (h4.moved hW.alike).kept hH, (h5.moved hW.alike).kept (hH _ (Nat.lt_of_lt_of_le h8 h9) hb), (h6.moved hW.alike).kept hH, (h7.moved hW.alike).kept hH, h8, hz, h10, ⟨h11, Stand.arrayOver_alikeB hW.alike hao⟩, h12⟩
/-- a method: its class, its name, its bytes, its locals, its answer's type, the cells and slots that it makes -/
abbrev zMe : Type := String × MethodName × ByteArray × Nat × Option FieldType × Nat × Nat
def zAt (Γ : zCtx) (μ : zMe) (p : Program) (s : State) (m : MethodId) (args : Array Value) (meth : Method) (c : Code) : Prop :=
  p.tables.exec = Jvm.exec ∧ c.code = μ.2.2.1 ∧ meth.sig.returnType = μ.2.2.2.2.1 ∧ c.maxLocals = μ.2.2.2.1 ∧ s.vm.findClass μ.1 = some m.cls ∧ (∀ w ∈ zG, w.before args s = true) ∧ meth.locks = false ∧ meth.name = μ.2.1.name ∧ zKB Γ s
abbrev zPhi : Type := List Frame → Array Value → State → State → Prop
def Z (Γ : zCtx) (R : Room) (μ : zMe) (Φ : zPhi) (kc ks pc : Nat) (ls : List (Option Value)) (st : List Value) (M : List zE) : Prop :=
  ∀ (p : Program) (e : Env) (s : State) (m : MethodId) (args : Array Value) (below : List Frame) (meth : Method) (c : Code) (d0 : Drawn) (H : Heap) (locs : List Loc) (la : Array Slot),
    zAt Γ μ p s m args meth c → s.drawn.sameBut d0 lw_cs → va_P (zD Γ) zCl (zw Γ M) H → va_S (zA Γ) s.heap H locs → s.heap.size + kc = zSz Γ + M.length → M.length ≤ 1000000 → zLs Γ la μ.2.2.2.1 ls →
    W p (zL Γ) e R (s.setDrawn d0) m args below meth c H locs kc ks (Φ below args s) (F0 m pc la (st.map (zv Γ)))
def zRm (d : Nat) (μ : zMe) : Room := { frames := d, cells := μ.2.2.2.2.2.1, slots := μ.2.2.2.2.2.2, locals := 64 * d }
def zQc (Γ : zCtx) (mc : Nat) (Q : List zE → Option Value → Prop) : Array Value → State → Outcome → State → Prop := fun _ st oc t =>
  (∃ (v : Option Value) (M : List zE), oc = .returned (v.map (zv Γ)) ∧ Q M v ∧ st.heap.size + mc = zSz Γ + M.length ∧ M.length ≤ 1000000 ∧ va_P (zD Γ) zCl (zw Γ M) t.heap) ∧ va_F (zA Γ) st t
def zWs (μ : zMe) : List Cond := .code μ.2.1 μ.2.2.1 μ.2.2.2.1 μ.2.2.2.2.1 :: zG
def zPc (Γ : zCtx) (args : List Value) (M : List zE) : Array Value → State → Prop := va_Pc (args.map (zv Γ)) (fun U => zKB Γ U ∧ va_P (zD Γ) zCl (zw Γ M) U.heap ∧ U.heap.size = zSz Γ + M.length ∧ M.length ≤ 1000000)
/-- a method's contract: from these cells it comes back with an answer and cells that Q names -/
def ZM (Γ : zCtx) (d : Nat) (μ : zMe) (args : List Value) (M : List zE) (Q : List zE → Option Value → Prop) : Prop :=
  MetD lw_cs (zL Γ) μ.2.1 (zWs μ) (zRm d μ) (zPc Γ args M) (zQc Γ μ.2.2.2.2.2.1 Q) μ.2.2.2.2.2.1 μ.2.2.2.2.2.2 (zA Γ)
def zPh (Γ : zCtx) (μ : zMe) (Q : List zE → Option Value → Prop) : zPhi := fun below args s => MQD lw_cs below (zQc Γ μ.2.2.2.2.2.1 Q) args s μ.2.2.2.2.2.1 μ.2.2.2.2.2.2 (zA Γ)
/-- the locals at the entry -/
def zEn : List Value → List (Option Value)
  | [] => []
  | v :: l => if v.category = 2 then some v :: none :: zEn l else some v :: zEn l
theorem zv_cat {Γ : zCtx} (hs : ∀ k, zSp Γ k = .null ∨ ∃ a, zSp Γ k = .ref a) (v : Value) : (zv Γ v).category = v.category := by
  cases v with
  | ref k =>
    unfold zv
    by_cases h : k < 1000000
    · simp only [h, if_true]; rfl
    · simp only [h, if_false]
      rcases hs (k - 1000000) with h | ⟨a, h⟩ <;> rw [h] <;> rfl
  | _ => rfl
theorem zEn_args {Γ : zCtx} (hs : ∀ k, zSp Γ k = .null ∨ ∃ a, zSp Γ k = .ref a) : ∀ (l : List Value) (n i : Nat) (v : Value), (zEn l)[i]? = some (some v) → (n + i, zv Γ v) ∈ lv_args n (l.map (zv Γ))
  | [], n, i, v, h => by simp [zEn] at h
  | w :: l, n, i, v, h => by
    have hc := zv_cat hs w
    unfold zEn at h
    by_cases h2 : w.category = 2
    · rw [if_pos h2] at h
      match i, h with
      | 0, h =>
        simp only [List.getElem?_cons_zero, Option.some.injEq] at h
        subst h
        simp [lv_args]
      | 1, h => simp at h
      | i + 2, h =>
        simp only [List.getElem?_cons_succ] at h
        have := zEn_args hs l (n + 2) i v h
        simp only [List.map_cons, lv_args, hc, h2]
        refine List.mem_cons_of_mem _ ?_
        rw [show n + (i + 2) = n + 2 + i by omega]
        exact this
    · rw [if_neg h2] at h
      have h1 : w.category = 1 := by rcases lv_cat w with q | q; exact q; exact absurd q h2
      match i, h with
      | 0, h =>
        simp only [List.getElem?_cons_zero, Option.some.injEq] at h
        subst h
        simp [lv_args]
      | i + 1, h =>
        simp only [List.getElem?_cons_succ] at h
        have := zEn_args hs l (n + 1) i v h
        simp only [List.map_cons, lv_args, hc, h1]
        refine List.mem_cons_of_mem _ ?_
        rw [show n + (i + 1) = n + 1 + i by omega]
        exact this
theorem zEn_len {Γ : zCtx} (hs : ∀ k, zSp Γ k = .null ∨ ∃ a, zSp Γ k = .ref a) : ∀ l : List Value, (lg_sl (l.map (zv Γ))).length = (zEn l).length
  | [] => rfl
  | w :: l => by
    have ih := zEn_len hs l
    have hc := zv_cat hs w
    unfold lg_sl at ih ⊢
    unfold zEn
    simp only [List.map_cons, List.flatMap_cons, List.length_append, ih, hc]
    by_cases h2 : w.category = 2
    · simp only [h2, if_true, List.length_cons, List.length_nil]; omega
    · simp only [h2, if_false, List.length_cons, List.length_nil]; omega
end
section
theorem zv_refs {Γ : zCtx} (hs : ∀ k, zSp Γ k = .null ∨ ∃ a, zSp Γ k = .ref a) (x : Nat) : zv Γ (.ref x) = .null ∨ ∃ a, zv Γ (.ref x) = .ref a := by
  unfold zv
  by_cases h : x < 1000000
  · simp only [h, if_true]; exact Or.inr ⟨_, rfl⟩
  · simp only [h, if_false]; exact hs _
/-- the known locals as a list of places and values -/
def zPr (Γ : zCtx) (ls : List (Option Value)) : List (Nat × Value) := (ls.mapIdx (fun i o => o.map (fun v => (i, zv Γ v)))).filterMap id
theorem zPr_mem {Γ : zCtx} {ls : List (Option Value)} {i : Nat} {v : Value} (h : ls[i]? = some (some v)) : (i, zv Γ v) ∈ zPr Γ ls := by
  refine List.mem_filterMap.mpr ⟨some (i, zv Γ v), List.mem_of_getElem? (i := i) ?_, rfl⟩
  simp [List.getElem?_mapIdx, h]
theorem zPr_of {Γ : zCtx} {ls : List (Option Value)} {q : Nat × Value} (h : q ∈ zPr Γ ls) : ∃ v, ls[q.1]? = some (some v) ∧ q.2 = zv Γ v := by
  obtain ⟨o, h1, h2⟩ := List.mem_filterMap.mp h
  obtain ⟨j, hj⟩ := List.getElem?_of_mem h1
  simp only [List.getElem?_mapIdx, Option.map_eq_some_iff] at hj
  obtain ⟨w, hw, rfl⟩ := hj
  cases w with
  | none => simp at h2
  | some v =>
    simp only [Option.map_some, id_eq, Option.some.injEq] at h2
    subst h2
    exact ⟨v, hw, rfl⟩
theorem zLs_has {Γ : zCtx} {la : Array Slot} {nL : Nat} {ls : List (Option Value)} (h : zLs Γ la nL ls) : lv_has la nL (zPr Γ ls) := by
  refine ⟨h.1, h.2.1, fun q hq => ?_⟩
  obtain ⟨v, h1, h2⟩ := zPr_of hq
  rw [h2]
  exact h.2.2 _ _ h1
/-- a wide value just below the place that is written is lost -/
def zClr (ls : List (Option Value)) (i : Nat) : List (Option Value) := match i with
  | 0 => ls
  | j + 1 => match ls[j]? with
    | some (some (.long _)) => ls.set j none
    | some (some (.double _)) => ls.set j none
    | _ => ls
def zSt1 (ls : List (Option Value)) (i : Nat) (v : Value) : List (Option Value) := (zClr ls i).set i (some v)
def zSt2 (ls : List (Option Value)) (i : Nat) (v : Value) : List (Option Value) := ((zClr ls i).set i (some v)).set (i + 1) none
theorem zClr_of {ls : List (Option Value)} {i j : Nat} {v : Value} (h : (zClr ls i)[j]? = some (some v)) : ls[j]? = some (some v) ∧ ¬ (j + 1 = i ∧ v.category = 2) := by
  cases i with
  | zero => exact ⟨h, fun q => absurd q.1 (by omega)⟩
  | succ i =>
    simp only [zClr] at h
    have set_case : (ls.set i none)[j]? = some (some v) → ls[j]? = some (some v) ∧ ¬ (j + 1 = i + 1 ∧ v.category = 2) := by
      intro h
      by_cases hij : i = j
      · subst hij
        rw [List.getElem?_set] at h
        simp only [if_true] at h
        split at h <;> simp at h
      · rw [List.getElem?_set_ne hij] at h
        exact ⟨h, fun q => hij (by omega)⟩
    split at h
    · exact set_case h
    · exact set_case h
    · rename_i n1 n2
      refine ⟨h, fun q => ?_⟩
      obtain ⟨q1, q2⟩ := q
      have : j = i := by omega
      subst this
      cases v with
      | long x => exact n1 x h
      | double x => exact n2 x h
      | _ => cases q2
theorem zSt1_ok {Γ : zCtx} (hs : ∀ k, zSp Γ k = .null ∨ ∃ a, zSp Γ k = .ref a) {la1 : Array Slot} {nL i : Nat} {ls : List (Option Value)} {v w : Value} (hv : zv Γ v = w) (h : lv_has la1 nL ((i, w) :: (zPr Γ ls).filter (fun q => !(q.1 == i) && !(q.1 + 1 == i && q.2.category == 2)))) : zLs Γ la1 nL (zSt1 ls i v) := by
  refine ⟨h.1, h.2.1, fun j u hj => ?_⟩
  unfold zSt1 at hj
  by_cases hij : i = j
  · subst hij
    rw [List.getElem?_set] at hj
    simp only [if_true] at hj
    split at hj
    · cases hj
      rw [hv]
      exact h.2.2 (i, w) List.mem_cons_self
    · cases hj
  · rw [List.getElem?_set_ne hij] at hj
    obtain ⟨h1, h2⟩ := zClr_of hj
    refine h.2.2 (j, zv Γ u) (List.mem_cons_of_mem _ (List.mem_filter.mpr ⟨zPr_mem h1, ?_⟩))
    have hne : ¬ j = i := fun q => hij q.symm
    by_cases hj1 : j + 1 = i
    · have hc : ¬ u.category = 2 := fun q => h2 ⟨hj1, q⟩
      simp [hne, hj1, zv_cat hs, hc]
    · simp [hne, hj1]
theorem zSt2_ok {Γ : zCtx} (hs : ∀ k, zSp Γ k = .null ∨ ∃ a, zSp Γ k = .ref a) {la1 : Array Slot} {nL i : Nat} {ls : List (Option Value)} {v w : Value} (hv : zv Γ v = w) (h : lv_has la1 nL ((i, w) :: (zPr Γ ls).filter (fun q => !(q.1 == i) && (!(q.1 == i + 1) && !(q.1 + 1 == i && q.2.category == 2))))) : zLs Γ la1 nL (zSt2 ls i v) := by
  refine ⟨h.1, h.2.1, fun j u hj => ?_⟩
  unfold zSt2 at hj
  by_cases hij2 : i + 1 = j
  · subst hij2
    rw [List.getElem?_set] at hj
    simp only [if_true] at hj
    split at hj <;> simp at hj
  rw [List.getElem?_set_ne hij2] at hj
  by_cases hij : i = j
  · subst hij
    rw [List.getElem?_set] at hj
    simp only [if_true] at hj
    split at hj
    · cases hj
      rw [hv]
      exact h.2.2 (i, w) List.mem_cons_self
    · cases hj
  · rw [List.getElem?_set_ne hij] at hj
    obtain ⟨h1, h2⟩ := zClr_of hj
    refine h.2.2 (j, zv Γ u) (List.mem_cons_of_mem _ (List.mem_filter.mpr ⟨zPr_mem h1, ?_⟩))
    have hne : ¬ j = i := fun q => hij q.symm
    have hne2 : ¬ j = i + 1 := fun q => hij2 q.symm
    by_cases hj1 : j + 1 = i
    · have hc : ¬ u.category = 2 := fun q => h2 ⟨hj1, q⟩
      simp [hne, hj1, hne2, zv_cat hs, hc]
    · simp [hne, hj1, hne2]
section ZR
variable {Γ : zCtx} {R : Room} {μ : zMe} {Φ : zPhi} {kc ks pc : Nat} {ls : List (Option Value)} {st : List Value} {M : List zE}
theorem Z_iadd {x y : Int32} (hd : decode μ.2.2.1 pc = .ok (.iadd, 1)) (k : Z Γ R μ Φ kc ks (pc + 1) ls (.int (x + y) :: st) M) : Z Γ R μ Φ kc ks pc ls (.int y :: .int x :: st) M := by
  intro p e s m args below meth c d0 H locs la hc hd0 hP hS hz hn hl
  exact lv_iadd hc.1 hc.2.1 hd (k p e s m args below meth c d0 H locs la hc hd0 hP hS hz hn hl)
theorem Z_isub {x y : Int32} (hd : decode μ.2.2.1 pc = .ok (.isub, 1)) (k : Z Γ R μ Φ kc ks (pc + 1) ls (.int (x - y) :: st) M) : Z Γ R μ Φ kc ks pc ls (.int y :: .int x :: st) M := by
  intro p e s m args below meth c d0 H locs la hc hd0 hP hS hz hn hl
  exact lv_isub hc.1 hc.2.1 hd (k p e s m args below meth c d0 H locs la hc hd0 hP hS hz hn hl)
theorem Z_imul {x y : Int32} (hd : decode μ.2.2.1 pc = .ok (.imul, 1)) (k : Z Γ R μ Φ kc ks (pc + 1) ls (.int (x * y) :: st) M) : Z Γ R μ Φ kc ks pc ls (.int y :: .int x :: st) M := by
  intro p e s m args below meth c d0 H locs la hc hd0 hP hS hz hn hl
  exact lv_imul hc.1 hc.2.1 hd (k p e s m args below meth c d0 H locs la hc hd0 hP hS hz hn hl)
theorem Z_iand {x y : Int32} (hd : decode μ.2.2.1 pc = .ok (.iand, 1)) (k : Z Γ R μ Φ kc ks (pc + 1) ls (.int (x &&& y) :: st) M) : Z Γ R μ Φ kc ks pc ls (.int y :: .int x :: st) M := by
  intro p e s m args below meth c d0 H locs la hc hd0 hP hS hz hn hl
  exact lv_iand hc.1 hc.2.1 hd (k p e s m args below meth c d0 H locs la hc hd0 hP hS hz hn hl)
theorem Z_ior {x y : Int32} (hd : decode μ.2.2.1 pc = .ok (.ior, 1)) (k : Z Γ R μ Φ kc ks (pc + 1) ls (.int (x ||| y) :: st) M) : Z Γ R μ Φ kc ks pc ls (.int y :: .int x :: st) M := by
  intro p e s m args below meth c d0 H locs la hc hd0 hP hS hz hn hl
  exact lv_ior hc.1 hc.2.1 hd (k p e s m args below meth c d0 H locs la hc hd0 hP hS hz hn hl)
theorem Z_ishl {x y : Int32} (hd : decode μ.2.2.1 pc = .ok (.ishl, 1)) (k : Z Γ R μ Φ kc ks (pc + 1) ls (.int (x <<< (y &&& 31)) :: st) M) : Z Γ R μ Φ kc ks pc ls (.int y :: .int x :: st) M := by
  intro p e s m args below meth c d0 H locs la hc hd0 hP hS hz hn hl
  exact lv_ishl hc.1 hc.2.1 hd (k p e s m args below meth c d0 H locs la hc hd0 hP hS hz hn hl)
theorem Z_ishr {x y : Int32} (hd : decode μ.2.2.1 pc = .ok (.ishr, 1)) (k : Z Γ R μ Φ kc ks (pc + 1) ls (.int (x >>> (y &&& 31)) :: st) M) : Z Γ R μ Φ kc ks pc ls (.int y :: .int x :: st) M := by
  intro p e s m args below meth c d0 H locs la hc hd0 hP hS hz hn hl
  exact lv_ishr hc.1 hc.2.1 hd (k p e s m args below meth c d0 H locs la hc hd0 hP hS hz hn hl)
theorem Z_ladd {x y : Int64} (hd : decode μ.2.2.1 pc = .ok (.ladd, 1)) (k : Z Γ R μ Φ kc ks (pc + 1) ls (.long (x + y) :: st) M) : Z Γ R μ Φ kc ks pc ls (.long y :: .long x :: st) M := by
  intro p e s m args below meth c d0 H locs la hc hd0 hP hS hz hn hl
  exact lv_ladd hc.1 hc.2.1 hd (k p e s m args below meth c d0 H locs la hc hd0 hP hS hz hn hl)
theorem Z_lsub {x y : Int64} (hd : decode μ.2.2.1 pc = .ok (.lsub, 1)) (k : Z Γ R μ Φ kc ks (pc + 1) ls (.long (x - y) :: st) M) : Z Γ R μ Φ kc ks pc ls (.long y :: .long x :: st) M := by
  intro p e s m args below meth c d0 H locs la hc hd0 hP hS hz hn hl
  exact lv_lsub hc.1 hc.2.1 hd (k p e s m args below meth c d0 H locs la hc hd0 hP hS hz hn hl)
theorem Z_lmul {x y : Int64} (hd : decode μ.2.2.1 pc = .ok (.lmul, 1)) (k : Z Γ R μ Φ kc ks (pc + 1) ls (.long (x * y) :: st) M) : Z Γ R μ Φ kc ks pc ls (.long y :: .long x :: st) M := by
  intro p e s m args below meth c d0 H locs la hc hd0 hP hS hz hn hl
  exact lv_lmul hc.1 hc.2.1 hd (k p e s m args below meth c d0 H locs la hc hd0 hP hS hz hn hl)
theorem Z_land {x y : Int64} (hd : decode μ.2.2.1 pc = .ok (.land, 1)) (k : Z Γ R μ Φ kc ks (pc + 1) ls (.long (x &&& y) :: st) M) : Z Γ R μ Φ kc ks pc ls (.long y :: .long x :: st) M := by
  intro p e s m args below meth c d0 H locs la hc hd0 hP hS hz hn hl
  exact lv_land hc.1 hc.2.1 hd (k p e s m args below meth c d0 H locs la hc hd0 hP hS hz hn hl)
theorem Z_lor {x y : Int64} (hd : decode μ.2.2.1 pc = .ok (.lor, 1)) (k : Z Γ R μ Φ kc ks (pc + 1) ls (.long (x ||| y) :: st) M) : Z Γ R μ Φ kc ks pc ls (.long y :: .long x :: st) M := by
  intro p e s m args below meth c d0 H locs la hc hd0 hP hS hz hn hl
  exact lv_lor hc.1 hc.2.1 hd (k p e s m args below meth c d0 H locs la hc hd0 hP hS hz hn hl)
theorem Z_lxor {x y : Int64} (hd : decode μ.2.2.1 pc = .ok (.lxor, 1)) (k : Z Γ R μ Φ kc ks (pc + 1) ls (.long (x ^^^ y) :: st) M) : Z Γ R μ Φ kc ks pc ls (.long y :: .long x :: st) M := by
  intro p e s m args below meth c d0 H locs la hc hd0 hP hS hz hn hl
  exact lv_lxor hc.1 hc.2.1 hd (k p e s m args below meth c d0 H locs la hc hd0 hP hS hz hn hl)
theorem Z_idiv {x y : Int32} (hd : decode μ.2.2.1 pc = .ok (.idiv, 1)) (hne : ¬ y = 0) (k : Z Γ R μ Φ kc ks (pc + 1) ls (.int (x / y) :: st) M) : Z Γ R μ Φ kc ks pc ls (.int y :: .int x :: st) M := by
  intro p e s m args below meth c d0 H locs la hc hd0 hP hS hz hn hl
  exact lv_idiv hc.1 hc.2.1 hd hne (k p e s m args below meth c d0 H locs la hc hd0 hP hS hz hn hl)
theorem Z_irem {x y : Int32} (hd : decode μ.2.2.1 pc = .ok (.irem, 1)) (hne : ¬ y = 0) (k : Z Γ R μ Φ kc ks (pc + 1) ls (.int (x - x / y * y) :: st) M) : Z Γ R μ Φ kc ks pc ls (.int y :: .int x :: st) M := by
  intro p e s m args below meth c d0 H locs la hc hd0 hP hS hz hn hl
  exact lv_irem hc.1 hc.2.1 hd hne (k p e s m args below meth c d0 H locs la hc hd0 hP hS hz hn hl)
theorem Z_ldiv {x y : Int64} (hd : decode μ.2.2.1 pc = .ok (.ldiv, 1)) (hne : ¬ y = 0) (k : Z Γ R μ Φ kc ks (pc + 1) ls (.long (x / y) :: st) M) : Z Γ R μ Φ kc ks pc ls (.long y :: .long x :: st) M := by
  intro p e s m args below meth c d0 H locs la hc hd0 hP hS hz hn hl
  exact lv_ldiv hc.1 hc.2.1 hd hne (k p e s m args below meth c d0 H locs la hc hd0 hP hS hz hn hl)
theorem Z_lrem {x y : Int64} (hd : decode μ.2.2.1 pc = .ok (.lrem, 1)) (hne : ¬ y = 0) (k : Z Γ R μ Φ kc ks (pc + 1) ls (.long (x - x / y * y) :: st) M) : Z Γ R μ Φ kc ks pc ls (.long y :: .long x :: st) M := by
  intro p e s m args below meth c d0 H locs la hc hd0 hP hS hz hn hl
  exact lv_lrem hc.1 hc.2.1 hd hne (k p e s m args below meth c d0 H locs la hc hd0 hP hS hz hn hl)
theorem Z_lshl {x : Int64} {y : Int32} (hd : decode μ.2.2.1 pc = .ok (.lshl, 1)) (k : Z Γ R μ Φ kc ks (pc + 1) ls (.long (x <<< (y.toInt64 &&& 63)) :: st) M) : Z Γ R μ Φ kc ks pc ls (.int y :: .long x :: st) M := by
  intro p e s m args below meth c d0 H locs la hc hd0 hP hS hz hn hl
  exact lv_lshl hc.1 hc.2.1 hd rfl (k p e s m args below meth c d0 H locs la hc hd0 hP hS hz hn hl)
theorem Z_lshr {x : Int64} {y : Int32} (hd : decode μ.2.2.1 pc = .ok (.lshr, 1)) (k : Z Γ R μ Φ kc ks (pc + 1) ls (.long (x >>> (y.toInt64 &&& 63)) :: st) M) : Z Γ R μ Φ kc ks pc ls (.int y :: .long x :: st) M := by
  intro p e s m args below meth c d0 H locs la hc hd0 hP hS hz hn hl
  exact lv_lshr hc.1 hc.2.1 hd rfl (k p e s m args below meth c d0 H locs la hc hd0 hP hS hz hn hl)
theorem Z_lcmp {x y : Int64} (hd : decode μ.2.2.1 pc = .ok (.lcmp, 1)) (k : Z Γ R μ Φ kc ks (pc + 1) ls (.int (lg_cmp x y) :: st) M) : Z Γ R μ Φ kc ks pc ls (.long y :: .long x :: st) M := by
  intro p e s m args below meth c d0 H locs la hc hd0 hP hS hz hn hl
  exact W.lcmp hc.1 hc.2.1 hd (k p e s m args below meth c d0 H locs la hc hd0 hP hS hz hn hl)
theorem Z_i2l {x : Int32} (hd : decode μ.2.2.1 pc = .ok (.i2l, 1)) (k : Z Γ R μ Φ kc ks (pc + 1) ls (.long x.toInt64 :: st) M) : Z Γ R μ Φ kc ks pc ls (.int x :: st) M := by
  intro p e s m args below meth c d0 H locs la hc hd0 hP hS hz hn hl
  exact lv_i2l hc.1 hc.2.1 hd rfl (k p e s m args below meth c d0 H locs la hc hd0 hP hS hz hn hl)
theorem Z_l2i {x : Int64} (hd : decode μ.2.2.1 pc = .ok (.l2i, 1)) (k : Z Γ R μ Φ kc ks (pc + 1) ls (.int x.toInt32 :: st) M) : Z Γ R μ Φ kc ks pc ls (.long x :: st) M := by
  intro p e s m args below meth c d0 H locs la hc hd0 hP hS hz hn hl
  exact lv_l2i hc.1 hc.2.1 hd rfl (k p e s m args below meth c d0 H locs la hc hd0 hP hS hz hn hl)
theorem Z_i2c {x : Int32} (hd : decode μ.2.2.1 pc = .ok (.i2c, 1)) (k : Z Γ R μ Φ kc ks (pc + 1) ls (.int (x.toUInt32 % 65536).toInt32 :: st) M) : Z Γ R μ Φ kc ks pc ls (.int x :: st) M := by
  intro p e s m args below meth c d0 H locs la hc hd0 hP hS hz hn hl
  exact lv_i2c hc.1 hc.2.1 hd rfl (k p e s m args below meth c d0 H locs la hc hd0 hP hS hz hn hl)
theorem Z_i2f {x : Int32} (hd : decode μ.2.2.1 pc = .ok (.i2f, 1)) (k : Z Γ R μ Φ kc ks (pc + 1) ls (.float (FP.i2f x) :: st) M) : Z Γ R μ Φ kc ks pc ls (.int x :: st) M := by
  intro p e s m args below meth c d0 H locs la hc hd0 hP hS hz hn hl
  exact lv_i2f hc.1 hc.2.1 hd (k p e s m args below meth c d0 H locs la hc hd0 hP hS hz hn hl)
theorem Z_i2d {x : Int32} (hd : decode μ.2.2.1 pc = .ok (.i2d, 1)) (k : Z Γ R μ Φ kc ks (pc + 1) ls (.double (FP.i2d x) :: st) M) : Z Γ R μ Φ kc ks pc ls (.int x :: st) M := by
  intro p e s m args below meth c d0 H locs la hc hd0 hP hS hz hn hl
  exact lv_i2d hc.1 hc.2.1 hd (k p e s m args below meth c d0 H locs la hc hd0 hP hS hz hn hl)
theorem Z_fcmp {x y : UInt32} {op : CmpOp} (hd : decode μ.2.2.1 pc = .ok (.fcmp op, 1)) (k : Z Γ R μ Φ kc ks (pc + 1) ls (.int (Op.cmpValue (FP.fcmp x y) op) :: st) M) : Z Γ R μ Φ kc ks pc ls (.float y :: .float x :: st) M := by
  intro p e s m args below meth c d0 H locs la hc hd0 hP hS hz hn hl
  exact lv_fcmp hc.1 hc.2.1 hd (k p e s m args below meth c d0 H locs la hc hd0 hP hS hz hn hl)
theorem Z_dcmp {x y : UInt64} {op : CmpOp} (hd : decode μ.2.2.1 pc = .ok (.dcmp op, 1)) (k : Z Γ R μ Φ kc ks (pc + 1) ls (.int (Op.cmpValue (FP.dcmp x y) op) :: st) M) : Z Γ R μ Φ kc ks pc ls (.double y :: .double x :: st) M := by
  intro p e s m args below meth c d0 H locs la hc hd0 hP hS hz hn hl
  exact lv_dcmp hc.1 hc.2.1 hd (k p e s m args below meth c d0 H locs la hc hd0 hP hS hz hn hl)
theorem Z_iconst {n : Int} (hd : decode μ.2.2.1 pc = .ok (.iconst n, 1)) (k : Z Γ R μ Φ kc ks (pc + 1) ls (.int (Int32.ofInt n) :: st) M) : Z Γ R μ Φ kc ks pc ls (st) M := by
  intro p e s m args below meth c d0 H locs la hc hd0 hP hS hz hn hl
  exact lv_iconst hc.1 hc.2.1 hd rfl (k p e s m args below meth c d0 H locs la hc hd0 hP hS hz hn hl)
theorem Z_bipush {n : Int} (hd : decode μ.2.2.1 pc = .ok (.bipush n, 2)) (k : Z Γ R μ Φ kc ks (pc + 2) ls (.int (Int8.ofInt n).toInt32 :: st) M) : Z Γ R μ Φ kc ks pc ls (st) M := by
  intro p e s m args below meth c d0 H locs la hc hd0 hP hS hz hn hl
  exact lv_bipush hc.1 hc.2.1 hd rfl (k p e s m args below meth c d0 H locs la hc hd0 hP hS hz hn hl)
theorem Z_sipush {n : Int} (hd : decode μ.2.2.1 pc = .ok (.sipush n, 3)) (k : Z Γ R μ Φ kc ks (pc + 3) ls (.int (Int16.ofInt n).toInt32 :: st) M) : Z Γ R μ Φ kc ks pc ls (st) M := by
  intro p e s m args below meth c d0 H locs la hc hd0 hP hS hz hn hl
  exact lv_sipush hc.1 hc.2.1 hd rfl (k p e s m args below meth c d0 H locs la hc hd0 hP hS hz hn hl)
theorem Z_lconst {n : Fin 2} (hd : decode μ.2.2.1 pc = .ok (.lconst n, 1)) (k : Z Γ R μ Φ kc ks (pc + 1) ls (.long (Int64.ofNat (n : Nat)) :: st) M) : Z Γ R μ Φ kc ks pc ls (st) M := by
  intro p e s m args below meth c d0 H locs la hc hd0 hP hS hz hn hl
  exact lv_lconst hc.1 hc.2.1 hd rfl (k p e s m args below meth c d0 H locs la hc hd0 hP hS hz hn hl)
theorem Z_dup {v : Value} (hd : decode μ.2.2.1 pc = .ok (.dup, 1)) (hv : v.category = 1) (k : Z Γ R μ Φ kc ks (pc + 1) ls (v :: v :: st) M) : Z Γ R μ Φ kc ks pc ls (v :: st) M := by
  intro p e s m args below meth c d0 H locs la hc hd0 hP hS hz hn hl
  have hcat := zv_cat hc.2.2.2.2.2.2.2.2.2.2.2.2.2.2.2.2.2.2.2
  exact lv_dup hc.1 hc.2.1 hd ((hcat v).trans hv) (k p e s m args below meth c d0 H locs la hc hd0 hP hS hz hn hl)
theorem Z_pop {v : Value} (hd : decode μ.2.2.1 pc = .ok (.pop, 1)) (hv : v.category = 1) (k : Z Γ R μ Φ kc ks (pc + 1) ls (st) M) : Z Γ R μ Φ kc ks pc ls (v :: st) M := by
  intro p e s m args below meth c d0 H locs la hc hd0 hP hS hz hn hl
  have hcat := zv_cat hc.2.2.2.2.2.2.2.2.2.2.2.2.2.2.2.2.2.2.2
  exact lv_pop hc.1 hc.2.1 hd ((hcat v).trans hv) (k p e s m args below meth c d0 H locs la hc hd0 hP hS hz hn hl)
theorem Z_dup2 {v w : Value} (hd : decode μ.2.2.1 pc = .ok (.dup2, 1)) (hv : v.category = 1) (hw : w.category = 1) (k : Z Γ R μ Φ kc ks (pc + 1) ls (v :: w :: v :: w :: st) M) : Z Γ R μ Φ kc ks pc ls (v :: w :: st) M := by
  intro p e s m args below meth c d0 H locs la hc hd0 hP hS hz hn hl
  have hcat := zv_cat hc.2.2.2.2.2.2.2.2.2.2.2.2.2.2.2.2.2.2.2
  exact lv_dup2_11 hc.1 hc.2.1 hd ((hcat v).trans hv) ((hcat w).trans hw) (k p e s m args below meth c d0 H locs la hc hd0 hP hS hz hn hl)
theorem Z_fdiv {x y : UInt32} (hd : decode μ.2.2.1 pc = .ok (.fdiv, 1)) (k : ∀ r : UInt32, alike32 r (FP.fdiv x y) = true → Z Γ R μ Φ kc ks (pc + 1) ls (.float r :: st) M) : Z Γ R μ Φ kc ks pc ls (.float y :: .float x :: st) M := by
  intro p e s m args below meth c d0 H locs la hc hd0 hP hS hz hn hl
  exact lv_fdiv_any hd0 lw_bits hc.1 hc.2.1 hd (fun r d1 hal hd1 => k r hal p e s m args below meth c d1 H locs la hc hd1 hP hS hz hn hl)
theorem Z_ddiv {x y : UInt64} (hd : decode μ.2.2.1 pc = .ok (.ddiv, 1)) (k : ∀ r : UInt64, alike64 r (FP.ddiv x y) = true → Z Γ R μ Φ kc ks (pc + 1) ls (.double r :: st) M) : Z Γ R μ Φ kc ks pc ls (.double y :: .double x :: st) M := by
  intro p e s m args below meth c d0 H locs la hc hd0 hP hS hz hn hl
  exact lv_ddiv_any hd0 lw_bits hc.1 hc.2.1 hd (fun r d1 hal hd1 => k r hal p e s m args below meth c d1 H locs la hc hd1 hP hS hz hn hl)
theorem Z_if_eq {x : Int32} {off : Int} {tgt : Nat} (hd : decode μ.2.2.1 pc = .ok (.ifCond .eq off, 3)) (ht : (pc : Int) + off = (tgt : Int)) (kt : x = 0 → Z Γ R μ Φ kc ks tgt ls st M) (kf : ¬ x = 0 → Z Γ R μ Φ kc ks (pc + 3) ls st M) : Z Γ R μ Φ kc ks pc ls (.int x :: st) M := by
  intro p e s m args below meth c d0 H locs la hc hd0 hP hS hz hn hl
  exact lv_if_eq hc.1 hc.2.1 hd ht (fun q => kt q p e s m args below meth c d0 H locs la hc hd0 hP hS hz hn hl) (fun q => kf q p e s m args below meth c d0 H locs la hc hd0 hP hS hz hn hl)
theorem Z_icmp_eq {x y : Int32} {off : Int} {tgt : Nat} (hd : decode μ.2.2.1 pc = .ok (.if_icmp .eq off, 3)) (ht : (pc : Int) + off = (tgt : Int)) (kt : x = y → Z Γ R μ Φ kc ks tgt ls st M) (kf : ¬ x = y → Z Γ R μ Φ kc ks (pc + 3) ls st M) : Z Γ R μ Φ kc ks pc ls (.int y :: .int x :: st) M := by
  intro p e s m args below meth c d0 H locs la hc hd0 hP hS hz hn hl
  exact lv_icmp_eq hc.1 hc.2.1 hd ht (fun q => kt q p e s m args below meth c d0 H locs la hc hd0 hP hS hz hn hl) (fun q => kf q p e s m args below meth c d0 H locs la hc hd0 hP hS hz hn hl)
theorem Z_if_ne {x : Int32} {off : Int} {tgt : Nat} (hd : decode μ.2.2.1 pc = .ok (.ifCond .ne off, 3)) (ht : (pc : Int) + off = (tgt : Int)) (kt : ¬ x = 0 → Z Γ R μ Φ kc ks tgt ls st M) (kf : x = 0 → Z Γ R μ Φ kc ks (pc + 3) ls st M) : Z Γ R μ Φ kc ks pc ls (.int x :: st) M := by
  intro p e s m args below meth c d0 H locs la hc hd0 hP hS hz hn hl
  exact lv_if_ne hc.1 hc.2.1 hd ht (fun q => kt q p e s m args below meth c d0 H locs la hc hd0 hP hS hz hn hl) (fun q => kf q p e s m args below meth c d0 H locs la hc hd0 hP hS hz hn hl)
theorem Z_icmp_ne {x y : Int32} {off : Int} {tgt : Nat} (hd : decode μ.2.2.1 pc = .ok (.if_icmp .ne off, 3)) (ht : (pc : Int) + off = (tgt : Int)) (kt : ¬ x = y → Z Γ R μ Φ kc ks tgt ls st M) (kf : x = y → Z Γ R μ Φ kc ks (pc + 3) ls st M) : Z Γ R μ Φ kc ks pc ls (.int y :: .int x :: st) M := by
  intro p e s m args below meth c d0 H locs la hc hd0 hP hS hz hn hl
  exact lv_icmp_ne hc.1 hc.2.1 hd ht (fun q => kt q p e s m args below meth c d0 H locs la hc hd0 hP hS hz hn hl) (fun q => kf q p e s m args below meth c d0 H locs la hc hd0 hP hS hz hn hl)
theorem Z_if_lt {x : Int32} {off : Int} {tgt : Nat} (hd : decode μ.2.2.1 pc = .ok (.ifCond .lt off, 3)) (ht : (pc : Int) + off = (tgt : Int)) (kt : x < 0 → Z Γ R μ Φ kc ks tgt ls st M) (kf : ¬ x < 0 → Z Γ R μ Φ kc ks (pc + 3) ls st M) : Z Γ R μ Φ kc ks pc ls (.int x :: st) M := by
  intro p e s m args below meth c d0 H locs la hc hd0 hP hS hz hn hl
  exact lv_if_lt hc.1 hc.2.1 hd ht (fun q => kt q p e s m args below meth c d0 H locs la hc hd0 hP hS hz hn hl) (fun q => kf q p e s m args below meth c d0 H locs la hc hd0 hP hS hz hn hl)
theorem Z_icmp_lt {x y : Int32} {off : Int} {tgt : Nat} (hd : decode μ.2.2.1 pc = .ok (.if_icmp .lt off, 3)) (ht : (pc : Int) + off = (tgt : Int)) (kt : x < y → Z Γ R μ Φ kc ks tgt ls st M) (kf : ¬ x < y → Z Γ R μ Φ kc ks (pc + 3) ls st M) : Z Γ R μ Φ kc ks pc ls (.int y :: .int x :: st) M := by
  intro p e s m args below meth c d0 H locs la hc hd0 hP hS hz hn hl
  exact lv_icmp_lt hc.1 hc.2.1 hd ht (fun q => kt q p e s m args below meth c d0 H locs la hc hd0 hP hS hz hn hl) (fun q => kf q p e s m args below meth c d0 H locs la hc hd0 hP hS hz hn hl)
theorem Z_if_ge {x : Int32} {off : Int} {tgt : Nat} (hd : decode μ.2.2.1 pc = .ok (.ifCond .ge off, 3)) (ht : (pc : Int) + off = (tgt : Int)) (kt : 0 ≤ x → Z Γ R μ Φ kc ks tgt ls st M) (kf : ¬ 0 ≤ x → Z Γ R μ Φ kc ks (pc + 3) ls st M) : Z Γ R μ Φ kc ks pc ls (.int x :: st) M := by
  intro p e s m args below meth c d0 H locs la hc hd0 hP hS hz hn hl
  exact lv_if_ge hc.1 hc.2.1 hd ht (fun q => kt q p e s m args below meth c d0 H locs la hc hd0 hP hS hz hn hl) (fun q => kf q p e s m args below meth c d0 H locs la hc hd0 hP hS hz hn hl)
theorem Z_icmp_ge {x y : Int32} {off : Int} {tgt : Nat} (hd : decode μ.2.2.1 pc = .ok (.if_icmp .ge off, 3)) (ht : (pc : Int) + off = (tgt : Int)) (kt : y ≤ x → Z Γ R μ Φ kc ks tgt ls st M) (kf : ¬ y ≤ x → Z Γ R μ Φ kc ks (pc + 3) ls st M) : Z Γ R μ Φ kc ks pc ls (.int y :: .int x :: st) M := by
  intro p e s m args below meth c d0 H locs la hc hd0 hP hS hz hn hl
  exact lv_icmp_ge hc.1 hc.2.1 hd ht (fun q => kt q p e s m args below meth c d0 H locs la hc hd0 hP hS hz hn hl) (fun q => kf q p e s m args below meth c d0 H locs la hc hd0 hP hS hz hn hl)
theorem Z_if_gt {x : Int32} {off : Int} {tgt : Nat} (hd : decode μ.2.2.1 pc = .ok (.ifCond .gt off, 3)) (ht : (pc : Int) + off = (tgt : Int)) (kt : 0 < x → Z Γ R μ Φ kc ks tgt ls st M) (kf : ¬ 0 < x → Z Γ R μ Φ kc ks (pc + 3) ls st M) : Z Γ R μ Φ kc ks pc ls (.int x :: st) M := by
  intro p e s m args below meth c d0 H locs la hc hd0 hP hS hz hn hl
  exact lv_if_gt hc.1 hc.2.1 hd ht (fun q => kt q p e s m args below meth c d0 H locs la hc hd0 hP hS hz hn hl) (fun q => kf q p e s m args below meth c d0 H locs la hc hd0 hP hS hz hn hl)
theorem Z_icmp_gt {x y : Int32} {off : Int} {tgt : Nat} (hd : decode μ.2.2.1 pc = .ok (.if_icmp .gt off, 3)) (ht : (pc : Int) + off = (tgt : Int)) (kt : y < x → Z Γ R μ Φ kc ks tgt ls st M) (kf : ¬ y < x → Z Γ R μ Φ kc ks (pc + 3) ls st M) : Z Γ R μ Φ kc ks pc ls (.int y :: .int x :: st) M := by
  intro p e s m args below meth c d0 H locs la hc hd0 hP hS hz hn hl
  exact lv_icmp_gt hc.1 hc.2.1 hd ht (fun q => kt q p e s m args below meth c d0 H locs la hc hd0 hP hS hz hn hl) (fun q => kf q p e s m args below meth c d0 H locs la hc hd0 hP hS hz hn hl)
theorem Z_if_le {x : Int32} {off : Int} {tgt : Nat} (hd : decode μ.2.2.1 pc = .ok (.ifCond .le off, 3)) (ht : (pc : Int) + off = (tgt : Int)) (kt : x ≤ 0 → Z Γ R μ Φ kc ks tgt ls st M) (kf : ¬ x ≤ 0 → Z Γ R μ Φ kc ks (pc + 3) ls st M) : Z Γ R μ Φ kc ks pc ls (.int x :: st) M := by
  intro p e s m args below meth c d0 H locs la hc hd0 hP hS hz hn hl
  exact lv_if_le hc.1 hc.2.1 hd ht (fun q => kt q p e s m args below meth c d0 H locs la hc hd0 hP hS hz hn hl) (fun q => kf q p e s m args below meth c d0 H locs la hc hd0 hP hS hz hn hl)
theorem Z_icmp_le {x y : Int32} {off : Int} {tgt : Nat} (hd : decode μ.2.2.1 pc = .ok (.if_icmp .le off, 3)) (ht : (pc : Int) + off = (tgt : Int)) (kt : x ≤ y → Z Γ R μ Φ kc ks tgt ls st M) (kf : ¬ x ≤ y → Z Γ R μ Φ kc ks (pc + 3) ls st M) : Z Γ R μ Φ kc ks pc ls (.int y :: .int x :: st) M := by
  intro p e s m args below meth c d0 H locs la hc hd0 hP hS hz hn hl
  exact lv_icmp_le hc.1 hc.2.1 hd ht (fun q => kt q p e s m args below meth c d0 H locs la hc hd0 hP hS hz hn hl) (fun q => kf q p e s m args below meth c d0 H locs la hc hd0 hP hS hz hn hl)
theorem Z_goto {off : Int} {tgt : Nat} (hd : decode μ.2.2.1 pc = .ok (.goto off, 3)) (ht : (pc : Int) + off = (tgt : Int)) (k : Z Γ R μ Φ kc ks tgt ls st M) : Z Γ R μ Φ kc ks pc ls st M := by
  intro p e s m args below meth c d0 H locs la hc hd0 hP hS hz hn hl
  exact lv_goto hc.1 hc.2.1 hd ht (k p e s m args below meth c d0 H locs la hc hd0 hP hS hz hn hl)
theorem Z_tableIn {dflt lo hi : Int} {offs : Array Int} {len : Nat} {x : Int32} {off : Int} {tgt : Nat} (hd : decode μ.2.2.1 pc = .ok (.tableswitch dflt lo hi offs, len)) (h1 : ¬ x.toInt < lo) (h2 : ¬ hi < x.toInt) (ho : offs[(x.toInt - lo).toNat]? = some off) (ht : (pc : Int) + off = (tgt : Int)) (k : Z Γ R μ Φ kc ks tgt ls st M) : Z Γ R μ Φ kc ks pc ls (.int x :: st) M := by
  intro p e s m args below meth c d0 H locs la hc hd0 hP hS hz hn hl
  exact lv_tableIn hc.1 hc.2.1 hd h1 h2 ho ht (k p e s m args below meth c d0 H locs la hc hd0 hP hS hz hn hl)
theorem Z_tableOut {dflt lo hi : Int} {offs : Array Int} {len : Nat} {x : Int32} {tgt : Nat} (hd : decode μ.2.2.1 pc = .ok (.tableswitch dflt lo hi offs, len)) (h : x.toInt < lo ∨ hi < x.toInt) (ht : (pc : Int) + dflt = (tgt : Int)) (k : Z Γ R μ Φ kc ks tgt ls st M) : Z Γ R μ Φ kc ks pc ls (.int x :: st) M := by
  intro p e s m args below meth c d0 H locs la hc hd0 hP hS hz hn hl
  exact lv_tableOut hc.1 hc.2.1 hd h ht (k p e s m args below meth c d0 H locs la hc hd0 hP hS hz hn hl)
theorem Z_ldc {index : Nat} {v : Int32} (hw : Cond.constant μ.1 index v ∈ zG) (hd : decode μ.2.2.1 pc = .ok (.ldc index, 2)) (k : Z Γ R μ Φ kc ks (pc + 2) ls (.int v :: st) M) : Z Γ R μ Φ kc ks pc ls st M := by
  intro p e s m args below meth c d0 H locs la hc hd0 hP hS hz hn hl
  exact lv_ldc hc.1 hc.2.1 hc.2.2.2.2.1 (dr_words hc.2.2.2.2.2.1 d0 _ hw) hd (k p e s m args below meth c d0 H locs la hc hd0 hP hS hz hn hl)
theorem Z_ldc2 {index : Nat} {v : Int64} (hw : Cond.constantLong μ.1 index v ∈ zG) (hd : decode μ.2.2.1 pc = .ok (.ldc2_w index, 3)) (k : Z Γ R μ Φ kc ks (pc + 3) ls (.long v :: st) M) : Z Γ R μ Φ kc ks pc ls st M := by
  intro p e s m args below meth c d0 H locs la hc hd0 hP hS hz hn hl
  exact lv_ldc2 hc.1 hc.2.1 hc.2.2.2.2.1 (dr_words hc.2.2.2.2.2.1 d0 _ hw) hd (k p e s m args below meth c d0 H locs la hc hd0 hP hS hz hn hl)
theorem Z_iload_n {i : Fin 4} {x : Int32} (hd : decode μ.2.2.1 pc = .ok (.iload_n i, 1)) (h : ls[(i : Nat)]? = some (some (.int x))) (k : Z Γ R μ Φ kc ks (pc + 1) ls (.int x :: st) M) : Z Γ R μ Φ kc ks pc ls st M := by
  intro p e s m args below meth c d0 H locs la hc hd0 hP hS hz hn hl
  exact lv_iload_n hc.1 hc.2.1 hd rfl (hl.2.2 _ _ h) (k p e s m args below meth c d0 H locs la hc hd0 hP hS hz hn hl)
theorem Z_iload {i : Nat} {x : Int32} (hd : decode μ.2.2.1 pc = .ok (.iload i, 2)) (h : ls[i]? = some (some (.int x))) (k : Z Γ R μ Φ kc ks (pc + 2) ls (.int x :: st) M) : Z Γ R μ Φ kc ks pc ls st M := by
  intro p e s m args below meth c d0 H locs la hc hd0 hP hS hz hn hl
  exact lv_iload hc.1 hc.2.1 hd (hl.2.2 _ _ h) (k p e s m args below meth c d0 H locs la hc hd0 hP hS hz hn hl)
theorem Z_lload_n {i : Fin 4} {x : Int64} (hd : decode μ.2.2.1 pc = .ok (.lload_n i, 1)) (h : ls[(i : Nat)]? = some (some (.long x))) (k : Z Γ R μ Φ kc ks (pc + 1) ls (.long x :: st) M) : Z Γ R μ Φ kc ks pc ls st M := by
  intro p e s m args below meth c d0 H locs la hc hd0 hP hS hz hn hl
  exact lv_lload_n hc.1 hc.2.1 hd rfl (hl.2.2 _ _ h) (k p e s m args below meth c d0 H locs la hc hd0 hP hS hz hn hl)
theorem Z_lload {i : Nat} {x : Int64} (hd : decode μ.2.2.1 pc = .ok (.lload i, 2)) (h : ls[i]? = some (some (.long x))) (k : Z Γ R μ Φ kc ks (pc + 2) ls (.long x :: st) M) : Z Γ R μ Φ kc ks pc ls st M := by
  intro p e s m args below meth c d0 H locs la hc hd0 hP hS hz hn hl
  exact lv_lload hc.1 hc.2.1 hd (hl.2.2 _ _ h) (k p e s m args below meth c d0 H locs la hc hd0 hP hS hz hn hl)
theorem Z_fload_n {i : Fin 4} {x : UInt32} (hd : decode μ.2.2.1 pc = .ok (.fload_n i, 1)) (h : ls[(i : Nat)]? = some (some (.float x))) (k : Z Γ R μ Φ kc ks (pc + 1) ls (.float x :: st) M) : Z Γ R μ Φ kc ks pc ls st M := by
  intro p e s m args below meth c d0 H locs la hc hd0 hP hS hz hn hl
  exact lv_fload_n hc.1 hc.2.1 hd rfl (hl.2.2 _ _ h) (k p e s m args below meth c d0 H locs la hc hd0 hP hS hz hn hl)
theorem Z_fload {i : Nat} {x : UInt32} (hd : decode μ.2.2.1 pc = .ok (.fload i, 2)) (h : ls[i]? = some (some (.float x))) (k : Z Γ R μ Φ kc ks (pc + 2) ls (.float x :: st) M) : Z Γ R μ Φ kc ks pc ls st M := by
  intro p e s m args below meth c d0 H locs la hc hd0 hP hS hz hn hl
  exact lv_fload hc.1 hc.2.1 hd (hl.2.2 _ _ h) (k p e s m args below meth c d0 H locs la hc hd0 hP hS hz hn hl)
theorem Z_dload_n {i : Fin 4} {x : UInt64} (hd : decode μ.2.2.1 pc = .ok (.dload_n i, 1)) (h : ls[(i : Nat)]? = some (some (.double x))) (k : Z Γ R μ Φ kc ks (pc + 1) ls (.double x :: st) M) : Z Γ R μ Φ kc ks pc ls st M := by
  intro p e s m args below meth c d0 H locs la hc hd0 hP hS hz hn hl
  exact lv_dload_n hc.1 hc.2.1 hd rfl (hl.2.2 _ _ h) (k p e s m args below meth c d0 H locs la hc hd0 hP hS hz hn hl)
theorem Z_dload {i : Nat} {x : UInt64} (hd : decode μ.2.2.1 pc = .ok (.dload i, 2)) (h : ls[i]? = some (some (.double x))) (k : Z Γ R μ Φ kc ks (pc + 2) ls (.double x :: st) M) : Z Γ R μ Φ kc ks pc ls st M := by
  intro p e s m args below meth c d0 H locs la hc hd0 hP hS hz hn hl
  exact lv_dload hc.1 hc.2.1 hd (hl.2.2 _ _ h) (k p e s m args below meth c d0 H locs la hc hd0 hP hS hz hn hl)
theorem Z_aload_n {i : Fin 4} {x : Nat} (hd : decode μ.2.2.1 pc = .ok (.aload_n i, 1)) (h : ls[(i : Nat)]? = some (some (.ref x))) (k : Z Γ R μ Φ kc ks (pc + 1) ls (.ref x :: st) M) : Z Γ R μ Φ kc ks pc ls st M := by
  intro p e s m args below meth c d0 H locs la hc hd0 hP hS hz hn hl
  have h1 := hl.2.2 _ _ h
  have k1 := k p e s m args below meth c d0 H locs la hc hd0 hP hS hz hn hl
  rw [List.map_cons] at k1
  rcases zv_refs hc.2.2.2.2.2.2.2.2.2.2.2.2.2.2.2.2.2.2.2 x with h2 | ⟨a, h2⟩ <;> rw [h2] at h1 k1
  · exact lv_aload_nN hc.1 hc.2.1 hd rfl h1 k1
  · exact lv_aload_n hc.1 hc.2.1 hd rfl h1 k1
theorem Z_aload {i : Nat} {x : Nat} (hd : decode μ.2.2.1 pc = .ok (.aload i, 2)) (h : ls[i]? = some (some (.ref x))) (k : Z Γ R μ Φ kc ks (pc + 2) ls (.ref x :: st) M) : Z Γ R μ Φ kc ks pc ls st M := by
  intro p e s m args below meth c d0 H locs la hc hd0 hP hS hz hn hl
  have h1 := hl.2.2 _ _ h
  have k1 := k p e s m args below meth c d0 H locs la hc hd0 hP hS hz hn hl
  rw [List.map_cons] at k1
  rcases zv_refs hc.2.2.2.2.2.2.2.2.2.2.2.2.2.2.2.2.2.2.2 x with h2 | ⟨a, h2⟩ <;> rw [h2] at h1 k1
  · exact lv_aloadN hc.1 hc.2.1 hd h1 k1
  · exact lv_aload hc.1 hc.2.1 hd h1 k1
theorem Z_istore_n {i : Fin 4} {x : Int32} (hd : decode μ.2.2.1 pc = .ok (.istore_n i, 1)) (hi : (i : Nat) < μ.2.2.2.1) (k : Z Γ R μ Φ kc ks (pc + 1) (zSt1 ls (i : Nat) (.int x)) st M) : Z Γ R μ Φ kc ks pc ls (.int x :: st) M := by
  intro p e s m args below meth c d0 H locs la hc hd0 hP hS hz hn hl
  exact lv_istore_n hc.1 hc.2.1 hd rfl (zLs_has hl) hi rfl (fun la1 hl1 => k p e s m args below meth c d0 H locs la1 hc hd0 hP hS hz hn (zSt1_ok hc.2.2.2.2.2.2.2.2.2.2.2.2.2.2.2.2.2.2.2 (by rfl) hl1))
theorem Z_istore {i : Nat} {x : Int32} (hd : decode μ.2.2.1 pc = .ok (.istore i, 2)) (hi : i < μ.2.2.2.1) (k : Z Γ R μ Φ kc ks (pc + 2) (zSt1 ls i (.int x)) st M) : Z Γ R μ Φ kc ks pc ls (.int x :: st) M := by
  intro p e s m args below meth c d0 H locs la hc hd0 hP hS hz hn hl
  exact lv_istore hc.1 hc.2.1 hd (zLs_has hl) hi rfl (fun la1 hl1 => k p e s m args below meth c d0 H locs la1 hc hd0 hP hS hz hn (zSt1_ok hc.2.2.2.2.2.2.2.2.2.2.2.2.2.2.2.2.2.2.2 (by rfl) hl1))
theorem Z_lstore_n {i : Fin 4} {x : Int64} (hd : decode μ.2.2.1 pc = .ok (.lstore_n i, 1)) (hi : (i : Nat) + 1 < μ.2.2.2.1) (k : Z Γ R μ Φ kc ks (pc + 1) (zSt2 ls (i : Nat) (.long x)) st M) : Z Γ R μ Φ kc ks pc ls (.long x :: st) M := by
  intro p e s m args below meth c d0 H locs la hc hd0 hP hS hz hn hl
  exact lv_lstore_n hc.1 hc.2.1 hd rfl (zLs_has hl) hi rfl (fun la1 hl1 => k p e s m args below meth c d0 H locs la1 hc hd0 hP hS hz hn (zSt2_ok hc.2.2.2.2.2.2.2.2.2.2.2.2.2.2.2.2.2.2.2 (by rfl) hl1))
theorem Z_lstore {i : Nat} {x : Int64} (hd : decode μ.2.2.1 pc = .ok (.lstore i, 2)) (hi : i + 1 < μ.2.2.2.1) (k : Z Γ R μ Φ kc ks (pc + 2) (zSt2 ls i (.long x)) st M) : Z Γ R μ Φ kc ks pc ls (.long x :: st) M := by
  intro p e s m args below meth c d0 H locs la hc hd0 hP hS hz hn hl
  exact lv_lstore hc.1 hc.2.1 hd (zLs_has hl) hi rfl (fun la1 hl1 => k p e s m args below meth c d0 H locs la1 hc hd0 hP hS hz hn (zSt2_ok hc.2.2.2.2.2.2.2.2.2.2.2.2.2.2.2.2.2.2.2 (by rfl) hl1))
theorem Z_astore_n {i : Fin 4} {x : Nat} (hd : decode μ.2.2.1 pc = .ok (.astore_n i, 1)) (hi : (i : Nat) < μ.2.2.2.1) (k : Z Γ R μ Φ kc ks (pc + 1) (zSt1 ls (i : Nat) (.ref x)) st M) : Z Γ R μ Φ kc ks pc ls (.ref x :: st) M := by
  intro p e s m args below meth c d0 H locs la hc hd0 hP hS hz hn hl
  have hs := hc.2.2.2.2.2.2.2.2.2.2.2.2.2.2.2.2.2.2.2
  rw [List.map_cons]
  rcases zv_refs hs x with h2 | ⟨a, h2⟩ <;> rw [h2]
  · exact lv_astore_nN hc.1 hc.2.1 hd rfl (zLs_has hl) hi rfl (fun la1 hl1 => k p e s m args below meth c d0 H locs la1 hc hd0 hP hS hz hn (zSt1_ok hs (v := .ref x) h2 hl1))
  · exact lv_astore_n hc.1 hc.2.1 hd rfl (zLs_has hl) hi rfl (fun la1 hl1 => k p e s m args below meth c d0 H locs la1 hc hd0 hP hS hz hn (zSt1_ok hs (v := .ref x) h2 hl1))
theorem Z_astore {i : Nat} {x : Nat} (hd : decode μ.2.2.1 pc = .ok (.astore i, 2)) (hi : i < μ.2.2.2.1) (k : Z Γ R μ Φ kc ks (pc + 2) (zSt1 ls i (.ref x)) st M) : Z Γ R μ Φ kc ks pc ls (.ref x :: st) M := by
  intro p e s m args below meth c d0 H locs la hc hd0 hP hS hz hn hl
  have hs := hc.2.2.2.2.2.2.2.2.2.2.2.2.2.2.2.2.2.2.2
  rw [List.map_cons]
  rcases zv_refs hs x with h2 | ⟨a, h2⟩ <;> rw [h2]
  · exact lv_astoreN hc.1 hc.2.1 hd (zLs_has hl) hi rfl (fun la1 hl1 => k p e s m args below meth c d0 H locs la1 hc hd0 hP hS hz hn (zSt1_ok hs (v := .ref x) h2 hl1))
  · exact lv_astore hc.1 hc.2.1 hd (zLs_has hl) hi rfl (fun la1 hl1 => k p e s m args below meth c d0 H locs la1 hc hd0 hP hS hz hn (zSt1_ok hs (v := .ref x) h2 hl1))
theorem Z_iinc {i : Nat} {n : Int} {x : Int32} (hd : decode μ.2.2.1 pc = .ok (.iinc i n, 3)) (h : ls[i]? = some (some (.int x))) (hi : i < μ.2.2.2.1) (k : Z Γ R μ Φ kc ks (pc + 3) (zSt1 ls i (.int (x + Int32.ofInt n))) st M) : Z Γ R μ Φ kc ks pc ls st M := by
  intro p e s m args below meth c d0 H locs la hc hd0 hP hS hz hn hl
  obtain ⟨j, hj⟩ := List.getElem?_of_mem (zPr_mem (Γ := Γ) h)
  exact lv_iinc hc.1 hc.2.1 hd (zLs_has hl) hj rfl hi rfl (fun la1 hl1 => k p e s m args below meth c d0 H locs la1 hc hd0 hP hS hz hn (zSt1_ok hc.2.2.2.2.2.2.2.2.2.2.2.2.2.2.2.2.2.2.2 (by rfl) hl1))
end ZR
end
section
/-! rules over cells -/
/-- what the tables say of a class of the world: its words, its fields' types, its fields' names -/
def zCk (ci : Nat) : Prop := ∀ (C : String) (T : u_T) (N : Nat), zCl[ci]? = some (C, T, N) → (∀ w ∈ u_ws C T N, w ∈ zG) ∧ (∀ k, k < N → parseFieldDescriptor (T k).2.2.1 = some (zTt ci k)) ∧ (∀ a, a < N → ∀ b, b < N → a ≠ b → (T a).2.1 ≠ (T b).2.1) ∧ (∀ k, k < N → (T k).1 = C) ∧ Cond.instantiable C N ∈ zG ∧ Cond.initialized C ∈ zG
/-- a field's link: from class own, entry idx, to field j of class ci -/
def zFl (own : String) (idx ci j : Nat) : Prop := zCk ci ∧ ∃ (C : String) (T : u_T) (N : Nat), zCl[ci]? = some (C, T, N) ∧ j < N ∧ (Cond.fieldLink own idx C (T j).2.1 (T j).2.2.1 ∈ zG ∨ ∃ host, Cond.fieldLinkNest own idx C (T j).2.1 (T j).2.2.1 host ∈ zN)
def zFn (ci j : Nat) : Bool := match zCl[ci]? with
  | some q => (q.2.1 j).2.2.2
  | none => true
section ZH
variable {Γ : zCtx} {R : Room} {μ : zMe} {Φ : zPhi} {kc ks pc : Nat} {ls : List (Option Value)} {st : List Value} {M : List zE}
theorem Z_get {idx ci j k : Nat} {fs : List Value} {v : Value} (hd : decode μ.2.2.1 pc = .ok (.getfield idx, 3)) (hf : zFl μ.1 idx ci j) (hM : M[k]? = some (.inr (ci, fs))) (hv : fs[j]? = some v) (kk : Z Γ R μ Φ kc ks (pc + 3) ls (v :: st) M) : Z Γ R μ Φ kc ks pc ls (.ref k :: st) M := by
  intro p e s m args below meth c d0 H locs la hc hd0 hP hS hz hn hl
  have hk : k < 1000000 := Nat.lt_of_lt_of_le (z_lt hM) hn
  have k1 := kk p e s m args below meth c d0 H locs la hc hd0 hP hS hz hn hl
  obtain ⟨hx, hb, hr, hml, hown, hts, hlk, hnm, hkb⟩ := hc
  obtain ⟨hck, C, T, N, hcl, hj, hlink⟩ := hf
  obtain ⟨c1, c2, c3, c4, c5, c6⟩ := hck C T N hcl
  rw [List.map_cons, zv_ref hk]
  have hP1 := hP
  have hv2 : (fs.map (zv Γ))[j]? = some (zv Γ v) := by rw [List.getElem?_map, hv]; rfl
  rcases hlink with h | ⟨host, h⟩
  · exact va_get (s := s.setDrawn d0) (own := μ.1) hx hb (dr_words hts d0) c1 hown hkb.1 hP k (zw_get hM) hcl j hj (dr_words hts d0 _ h) (fun x q => by rw [c4 j hj] at q; exact q) hv2 hd k1
  · exact va_getN (s := s.setDrawn d0) (own := μ.1) hx hb (dr_words hts d0) c1 hown hkb.1 hP k (zw_get hM) hcl j hj ((Cond.before_setDrawn args s d0 _).trans (va_Nw.use rfl (hkb.2.1 _ h))) (fun x q => by rw [c4 j hj] at q; exact q) hv2 hd k1
theorem Z_put {idx ci j k : Nat} {fs : List Value} {v : Value} (hd : decode μ.2.2.1 pc = .ok (.putfield idx, 3)) (hf : zFl μ.1 idx ci j) (hM : M[k]? = some (.inr (ci, fs))) (hfin : zFn ci j = false) (hvv : zv Γ v = v) (hnr : narrow (zTt ci j) v = v) (hft : fits (zTt ci j) v = true) (hj : j < fs.length) (kk : Z Γ R μ Φ kc ks (pc + 3) ls st (M.set k (.inr (ci, fs.set j v)))) : Z Γ R μ Φ kc ks pc ls (v :: .ref k :: st) M := by
  intro p e s m args below meth c d0 H locs la hc hd0 hP hS hz hn hl
  have hk : k < 1000000 := Nat.lt_of_lt_of_le (z_lt hM) hn
  have k1 := fun H1 locs1 hP1 hS1 => kk p e s m args below meth c d0 H1 locs1 la hc hd0 hP1 hS1 (by rw [List.length_set]; exact hz) (by rw [List.length_set]; exact hn) hl
  obtain ⟨hx, hb, hr, hml, hown, hts, hlk, hnm, hkb⟩ := hc
  obtain ⟨hck, C, T, N, hcl, hjN, hlink⟩ := hf
  obtain ⟨c1, c2, c3, c4, c5, c6⟩ := hck C T N hcl
  have hfin2 : (T j).2.2.2 = false := by
    have h := hfin
    unfold zFn at h
    rw [hcl] at h
    exact h
  rw [List.map_cons, List.map_cons, zv_ref hk, hvv]
  have e1 : zw Γ (M.set k (.inr (ci, fs.set j v))) = (zw Γ M).set k (zSz Γ + k, .inr (ci, (fs.map (zv Γ)).set j v)) := by
    rw [zw_set]
    show (zw Γ M).set k (zSz Γ + k, .inr (ci, (fs.set j v).map (zv Γ))) = _
    rw [List.map_set, hvv]
  rcases hlink with h | ⟨host, h⟩
  · exact va_put (s := s.setDrawn d0) (own := μ.1) (ref := C) hx hb (dr_words hts d0) c1 (zTt ci) c2 c3 hown hkb.1 hP (zw_D Γ M) hS k (zw_get hM) hcl j hjN (dr_words hts d0 _ h) (fun x q => by rw [c4 j hjN] at q; exact q) hfin2 (c2 j hjN) hnr hft (by rw [List.length_map]; exact hj) hd (fun H1 locs1 hP1 hD1 hS1 => k1 H1 locs1 (by rw [e1]; exact hP1) hS1)
  · exact va_putN (s := s.setDrawn d0) (own := μ.1) (ref := C) hx hb (dr_words hts d0) c1 (zTt ci) c2 c3 hown hkb.1 hP (zw_D Γ M) hS k (zw_get hM) hcl j hjN ((Cond.before_setDrawn args s d0 _).trans (va_Nw.use rfl (hkb.2.1 _ h))) (fun x q => by rw [c4 j hjN] at q; exact q) hfin2 (c2 j hjN) hnr hft (by rw [List.length_map]; exact hj) hd (fun H1 locs1 hP1 hD1 hS1 => k1 H1 locs1 (by rw [e1]; exact hP1) hS1)
theorem Z_puti {idx ci j k : Nat} {fs : List Value} {x : Int32} (hd : decode μ.2.2.1 pc = .ok (.putfield idx, 3)) (hf : zFl μ.1 idx ci j) (hM : M[k]? = some (.inr (ci, fs))) (hfin : zFn ci j = false) (hty : zTt ci j = .int) (hj : j < fs.length) (kk : Z Γ R μ Φ kc ks (pc + 3) ls st (M.set k (.inr (ci, fs.set j (.int x))))) : Z Γ R μ Φ kc ks pc ls (.int x :: .ref k :: st) M :=
  Z_put hd hf hM hfin rfl (by rw [hty]; rfl) (by rw [hty]; rfl) hj kk
theorem Z_putz {idx ci j k : Nat} {fs : List Value} {x : Int32} (hd : decode μ.2.2.1 pc = .ok (.putfield idx, 3)) (hf : zFl μ.1 idx ci j) (hM : M[k]? = some (.inr (ci, fs))) (hfin : zFn ci j = false) (hty : zTt ci j = .boolean) (hx : x = 0 ∨ x = 1) (hj : j < fs.length) (kk : Z Γ R μ Φ kc ks (pc + 3) ls st (M.set k (.inr (ci, fs.set j (.int x))))) : Z Γ R μ Φ kc ks pc ls (.int x :: .ref k :: st) M :=
  Z_put hd hf hM hfin rfl (by rw [hty]; rcases hx with rfl | rfl <;> rfl) (by rw [hty]; rcases hx with rfl | rfl <;> rfl) hj kk
/-- a final field, in a constructor: a reference -/
theorem Z_putF {idx ci j k r : Nat} {fs : List Value} (hd : decode μ.2.2.1 pc = .ok (.putfield idx, 3)) (hf : zFl μ.1 idx ci j) (hM : M[k]? = some (.inr (ci, fs))) (hfin : zFn ci j = true) (hin : μ.2.1.name = "<init>") (hown0 : ∀ C T N, zCl[ci]? = some (C, T, N) → C = μ.1) (hty : (∃ t, zTt ci j = .object t) ∨ ∃ t, zTt ci j = .array t) (hpl : ∀ C T N, zCl[ci]? = some (C, T, N) → Cond.fieldLink μ.1 idx C (T j).2.1 (T j).2.2.1 ∈ zG) (hr : r < 1000000) (hj : j < fs.length) (kk : Z Γ R μ Φ kc ks (pc + 3) ls st (M.set k (.inr (ci, fs.set j (.ref r))))) : Z Γ R μ Φ kc ks pc ls (.ref r :: .ref k :: st) M := by
  intro p e s m args below meth c d0 H locs la hc hd0 hP hS hz hn hl
  have hk : k < 1000000 := Nat.lt_of_lt_of_le (z_lt hM) hn
  have k1 := fun H1 locs1 hP1 hS1 => kk p e s m args below meth c d0 H1 locs1 la hc hd0 hP1 hS1 (by rw [List.length_set]; exact hz) (by rw [List.length_set]; exact hn) hl
  obtain ⟨hx, hb, hrt, hml, hown, hts, hlk, hnm, hkb⟩ := hc
  obtain ⟨hck, C, T, N, hcl, hjN, -⟩ := hf
  obtain ⟨c1, c2, c3, c4, c5, c6⟩ := hck C T N hcl
  have hfin2 : (T j).2.2.2 = true := by
    have h := hfin
    unfold zFn at h
    rw [hcl] at h
    exact h
  rw [List.map_cons, List.map_cons, zv_ref hk, zv_ref hr]
  have e1 : zw Γ (M.set k (.inr (ci, fs.set j (.ref r)))) = (zw Γ M).set k (zSz Γ + k, .inr (ci, (fs.map (zv Γ)).set j (.ref (zSz Γ + r)))) := by
    rw [zw_set]
    show (zw Γ M).set k (zSz Γ + k, .inr (ci, (fs.set j (.ref r)).map (zv Γ))) = _
    rw [List.map_set, zv_ref hr]
  exact va_putF (s := s.setDrawn d0) (own := μ.1) (ref := C) hx hb (dr_words hts d0) c1 (zTt ci) c2 c3 hown hkb.1 hP (zw_D Γ M) hS k (zw_get hM) hcl j hjN (dr_words hts d0 _ (hpl C T N hcl)) (fun x q => by rw [c4 j hjN] at q; exact q) hfin2 (by rw [hnm]; exact hin) (by rw [c4 j hjN]; exact hown0 C T N hcl) (c2 j hjN) (by rcases hty with ⟨t, h⟩ | ⟨t, h⟩ <;> rw [h] <;> rfl) (by rcases hty with ⟨t, h⟩ | ⟨t, h⟩ <;> rw [h] <;> rfl) (by rw [List.length_map]; exact hj) hd (fun H1 locs1 hP1 hD1 hS1 => k1 H1 locs1 (by rw [e1]; exact hP1) hS1)
theorem Z_iald {k n : Nat} {f : Nat → Int32} {i : Int32} (hd : decode μ.2.2.1 pc = .ok (.iaload, 1)) (hM : M[k]? = some (.inl (0, n, .inl f))) (hin : vp_in i n) (kk : Z Γ R μ Φ kc ks (pc + 1) ls (.int (f i.toNatClampNeg) :: st) M) : Z Γ R μ Φ kc ks pc ls (.int i :: .ref k :: st) M := by
  intro p e s m args below meth c d0 H locs la hc hd0 hP hS hz hn hl
  have hk : k < 1000000 := Nat.lt_of_lt_of_le (z_lt hM) hn
  rw [List.map_cons, List.map_cons, zv_ref hk]
  exact va_iald (s := s.setDrawn d0) hc.1 hc.2.1 hc.2.2.2.2.2.2.2.2.1 hP k 0 (zw_get hM) rfl hin hd (kk p e s m args below meth c d0 H locs la hc hd0 hP hS hz hn hl)
theorem Z_lald {k n : Nat} {f : Nat → Int64} {i : Int32} (hd : decode μ.2.2.1 pc = .ok (.laload, 1)) (hM : M[k]? = some (.inl (1, n, .inr (.inl f)))) (hin : vp_in i n) (kk : Z Γ R μ Φ kc ks (pc + 1) ls (.long (f i.toNatClampNeg) :: st) M) : Z Γ R μ Φ kc ks pc ls (.int i :: .ref k :: st) M := by
  intro p e s m args below meth c d0 H locs la hc hd0 hP hS hz hn hl
  have hk : k < 1000000 := Nat.lt_of_lt_of_le (z_lt hM) hn
  rw [List.map_cons, List.map_cons, zv_ref hk]
  exact va_lald (s := s.setDrawn d0) hc.1 hc.2.1 hc.2.2.2.2.2.2.2.2.1 hP k 1 (zw_get hM) rfl hin hd (kk p e s m args below meth c d0 H locs la hc hd0 hP hS hz hn hl)
theorem Z_zald {k n : Nat} {f : Nat → Int32} {i : Int32} (hd : decode μ.2.2.1 pc = .ok (.baload, 1)) (hM : M[k]? = some (.inl (2, n, .inl f))) (hin : vp_in i n) (kk : Z Γ R μ Φ kc ks (pc + 1) ls (.int (f i.toNatClampNeg) :: st) M) : Z Γ R μ Φ kc ks pc ls (.int i :: .ref k :: st) M := by
  intro p e s m args below meth c d0 H locs la hc hd0 hP hS hz hn hl
  have hk : k < 1000000 := Nat.lt_of_lt_of_le (z_lt hM) hn
  rw [List.map_cons, List.map_cons, zv_ref hk]
  exact va_zald (s := s.setDrawn d0) hc.1 hc.2.1 hc.2.2.2.2.2.2.2.2.1 hP k 2 (zw_get hM) rfl hin hd (kk p e s m args below meth c d0 H locs la hc hd0 hP hS hz hn hl)
theorem Z_aald {k n r : Nat} {f : Nat → Option Nat} {i : Int32} (hd : decode μ.2.2.1 pc = .ok (.aaload, 1)) (hM : M[k]? = some (.inl (3, n, .inr (.inr (.inr (.inr f)))))) (hin : vp_in i n) (hr : f i.toNatClampNeg = some r) (hr2 : r < 1000000) (kk : Z Γ R μ Φ kc ks (pc + 1) ls (.ref r :: st) M) : Z Γ R μ Φ kc ks pc ls (.int i :: .ref k :: st) M := by
  intro p e s m args below meth c d0 H locs la hc hd0 hP hS hz hn hl
  have hk : k < 1000000 := Nat.lt_of_lt_of_le (z_lt hM) hn
  have k1 := kk p e s m args below meth c d0 H locs la hc hd0 hP hS hz hn hl
  rw [List.map_cons, zv_ref hr2] at k1
  rw [List.map_cons, List.map_cons, zv_ref hk]
  have hlt : i.toNatClampNeg < n := Nat.not_le.mp fun q => hin (Or.inr q)
  have hK := hc.2.2.2.2.2.2.2.2.1
  have hcell : H[zSz Γ + k]? = some (arrV (zAr Γ 3) n (fun j => va_rf ((f j).map (fun k => zSz Γ + k)))) := hP k _ (zw_get hM)
  have harr : (s.setDrawn d0).isArrayOf (arrV (zAr Γ 3) n (fun j => va_rf ((f j).map (fun k => zSz Γ + k)))) (.array .int) := (hK.2 3 _ rfl).1 n _
  have hval : (arrV (zAr Γ 3) n (fun j => va_rf ((f j).map (fun k => zSz Γ + k)))).slots[i.toNatClampNeg]? = some (.ref (zSz Γ + r)) := by rw [arrV_read _ _ hlt, hr]; rfl
  exact W.aald (s := s.setDrawn d0) (g := F0 m pc la (.int i :: .ref (zSz Γ + k) :: st.map (zv Γ))) hc.1 hc.2.1 hcell harr rfl (fun q => by cases q) (by rw [arrV_size]; exact hin) hval rfl rfl hd k1
theorem Z_alen {k t : Nat} {x : vp_A} (hd : decode μ.2.2.1 pc = .ok (.arraylength, 1)) (hM : M[k]? = some (.inl (t, x))) (ht : t < 3) (hx : ∀ f, x.2 ≠ .inr (.inr (.inr (.inr f)))) (kk : Z Γ R μ Φ kc ks (pc + 1) ls (.int (Int32.ofNat x.1) :: st) M) : Z Γ R μ Φ kc ks pc ls (.ref k :: st) M := by
  intro p e s m args below meth c d0 H locs la hc hd0 hP hS hz hn hl
  have hk : k < 1000000 := Nat.lt_of_lt_of_le (z_lt hM) hn
  rw [List.map_cons, zv_ref hk]
  have h1 : zc Γ (.inl (t, x)) = .inl (zAr Γ t, x) := by
    obtain ⟨n, f | f | f | f | f⟩ := x
    · rfl
    · rfl
    · rfl
    · rfl
    · exact absurd rfl (hx f)
  have h2 : (zTys Γ)[t]? = some (zAr Γ t, zTy t) := by
    match t, ht with
    | 0, _ => rfl
    | 1, _ => rfl
    | 2, _ => rfl
  exact va_alen (s := s.setDrawn d0) hc.1 hc.2.1 hc.2.2.2.2.2.2.2.2.1 hP k t (x := x) (by rw [zw_get hM, h1]) h2 rfl hd (kk p e s m args below meth c d0 H locs la hc hd0 hP hS hz hn hl)
theorem Z_iast {k n : Nat} {f : Nat → Int32} {i x : Int32} (hd : decode μ.2.2.1 pc = .ok (.iastore, 1)) (hM : M[k]? = some (.inl (0, n, .inl f))) (hin : vp_in i n) (kk : Z Γ R μ Φ kc ks (pc + 1) ls st (M.set k (.inl (0, n, .inl (upd f i.toNatClampNeg x))))) : Z Γ R μ Φ kc ks pc ls (.int x :: .int i :: .ref k :: st) M := by
  intro p e s m args below meth c d0 H locs la hc hd0 hP hS hz hn hl
  have hk : k < 1000000 := Nat.lt_of_lt_of_le (z_lt hM) hn
  rw [List.map_cons, List.map_cons, List.map_cons, zv_ref hk]
  exact va_iast (s := s.setDrawn d0) hc.1 hc.2.1 hc.2.2.2.2.2.2.2.2.1 hP (zw_D Γ M) hS k 0 (zw_get hM) rfl hin hd (fun H1 locs1 hP1 hD1 hS1 => kk p e s m args below meth c d0 H1 locs1 la hc hd0 (by rw [zw_set]; exact hP1) hS1 (by rw [List.length_set]; exact hz) (by rw [List.length_set]; exact hn) hl)
theorem Z_last {k n : Nat} {f : Nat → Int64} {i : Int32} {x : Int64} (hd : decode μ.2.2.1 pc = .ok (.lastore, 1)) (hM : M[k]? = some (.inl (1, n, .inr (.inl f)))) (hin : vp_in i n) (kk : Z Γ R μ Φ kc ks (pc + 1) ls st (M.set k (.inl (1, n, .inr (.inl (vp_updL f i.toNatClampNeg x)))))) : Z Γ R μ Φ kc ks pc ls (.long x :: .int i :: .ref k :: st) M := by
  intro p e s m args below meth c d0 H locs la hc hd0 hP hS hz hn hl
  have hk : k < 1000000 := Nat.lt_of_lt_of_le (z_lt hM) hn
  rw [List.map_cons, List.map_cons, List.map_cons, zv_ref hk]
  exact va_last (s := s.setDrawn d0) hc.1 hc.2.1 hc.2.2.2.2.2.2.2.2.1 hP (zw_D Γ M) hS k 1 (zw_get hM) rfl hin hd (fun H1 locs1 hP1 hD1 hS1 => kk p e s m args below meth c d0 H1 locs1 la hc hd0 (by rw [zw_set]; exact hP1) hS1 (by rw [List.length_set]; exact hz) (by rw [List.length_set]; exact hn) hl)
theorem Z_zast {k n : Nat} {f : Nat → Int32} {i x : Int32} (hd : decode μ.2.2.1 pc = .ok (.bastore, 1)) (hM : M[k]? = some (.inl (2, n, .inl f))) (hin : vp_in i n) (hx : x = 0 ∨ x = 1) (kk : Z Γ R μ Φ kc ks (pc + 1) ls st (M.set k (.inl (2, n, .inl (upd f i.toNatClampNeg x))))) : Z Γ R μ Φ kc ks pc ls (.int x :: .int i :: .ref k :: st) M := by
  intro p e s m args below meth c d0 H locs la hc hd0 hP hS hz hn hl
  have hk : k < 1000000 := Nat.lt_of_lt_of_le (z_lt hM) hn
  rw [List.map_cons, List.map_cons, List.map_cons, zv_ref hk]
  have hnar : vp_nar .boolean x = x := by rcases hx with rfl | rfl <;> rfl
  exact va_zast (s := s.setDrawn d0) hc.1 hc.2.1 hc.2.2.2.2.2.2.2.2.1 hP (zw_D Γ M) hS k 2 (zw_get hM) rfl hin hd (fun H1 locs1 hP1 hD1 hS1 => kk p e s m args below meth c d0 H1 locs1 la hc hd0 (by rw [zw_set]; rw [hnar] at hP1; exact hP1) hS1 (by rw [List.length_set]; exact hz) (by rw [List.length_set]; exact hn) hl)
/-- the script -/
theorem Z_sld {L : Nat} {xs : Nat → Int32} {i : Int32} (hd : decode μ.2.2.1 pc = .ok (.iaload, 1)) (hs : (zScr Γ).2 = (L, xs)) (hin : vp_in i L) (kk : Z Γ R μ Φ kc ks (pc + 1) ls (.int (xs i.toNatClampNeg) :: st) M) : Z Γ R μ Φ kc ks pc ls (.int i :: .ref 1000000 :: st) M := by
  intro p e s m args below meth c d0 H locs la hc hd0 hP hS hz hn hl
  have k1 := kk p e s m args below meth c d0 H locs la hc hd0 hP hS hz hn hl
  obtain ⟨hx, hb, hr, hml, hown, hts, hlk, hnm, h1, h2, h3, h4, h5, h6, h7, h8, h9, h10, h11⟩ := hc
  have e0 : zv Γ (.ref 1000000) = .ref (zScr Γ).1 := h10
  rw [List.map_cons, List.map_cons, e0]
  rw [hs] at h5
  exact va_sld (s := s.setDrawn d0) hx hb h5 (Nat.lt_of_lt_of_le h8 h9) (Nat.not_le.mpr h8) hS hin hd k1
theorem Z_slen {L : Nat} {xs : Nat → Int32} (hd : decode μ.2.2.1 pc = .ok (.arraylength, 1)) (hs : (zScr Γ).2 = (L, xs)) (kk : Z Γ R μ Φ kc ks (pc + 1) ls (.int (Int32.ofNat L) :: st) M) : Z Γ R μ Φ kc ks pc ls (.ref 1000000 :: st) M := by
  intro p e s m args below meth c d0 H locs la hc hd0 hP hS hz hn hl
  have k1 := kk p e s m args below meth c d0 H locs la hc hd0 hP hS hz hn hl
  obtain ⟨hx, hb, hr, hml, hown, hts, hlk, hnm, h1, h2, h3, h4, h5, h6, h7, h8, h9, h10, h11⟩ := hc
  have e0 : zv Γ (.ref 1000000) = .ref (zScr Γ).1 := h10
  rw [List.map_cons, e0]
  rw [hs] at h5
  exact va_slen (s := s.setDrawn d0) hx hb h5 (Nat.lt_of_lt_of_le h8 h9) (Nat.not_le.mpr h8) hS hd k1
end ZH
end
section
/-! contracts: entry, ends, calls -/
def zMk (μ : zMe) : Prop := Cond.code μ.2.1 μ.2.2.1 μ.2.2.2.1 μ.2.2.2.2.1 ∈ zG ∧ Cond.initialized μ.2.1.cls ∈ zG ∧ plainFor μ.2.1 = true ∧ (μ.2.1.cls ≠ "java/lang/invoke/MethodHandle" ∧ μ.2.1.cls ≠ "java/lang/invoke/VarHandle") ∧ μ.2.1.cls = μ.1 ∧ μ.2.2.2.1 ≤ 45
def zLk (own : String) (idx n : Nat) (μ : zMe) : Prop := zMk μ ∧ (parseMethodDescriptor μ.2.1.desc).map (fun d => d.parameters.length) = some n ∧ (Cond.methodLink own idx μ.2.1 ∈ zG ∨ ∃ host, Cond.methodLinkNest own idx μ.2.1 host ∈ zN)
def zLv (own : String) (idx n : Nat) (μ : zMe) : Prop := zLk own idx n μ ∧ Cond.instanceMethod μ.2.1 ∈ zG ∧ Cond.selects μ.2.1.cls μ.2.1 μ.2.1 ∈ zG
def zLt (own : String) (idx n : Nat) (μ : zMe) : Prop := zLk own idx n μ ∧ Cond.static μ.2.1 ∈ zG
def zLi (own : String) (idx n : Nat) (μ : zMe) : Prop := zLk own idx n μ ∧ Cond.instanceMethod μ.2.1 ∈ zG ∧ μ.2.1.name = "<init>" ∧ μ.2.2.2.2.1 = none
/-- MetD.ofW's road, for a class some of whose methods are natives -/
theorem z_ofW {cs : List Choice} {l : Launch} {y : MethodName} {ws ws' : List Cond} {rm : Room} {Pc : Array Value → State → Prop} {Qc : Array Value → State → Outcome → State → Prop} {mc ms : Nat} {free : Addr → Prop} {cc : ByteArray} {maxL : Nat} {ret : Option FieldType}
    (hy : plainFor y = true) (hw : ws = Cond.code y cc maxL ret :: ws')
    (body : ∀ p e s m args below meth c s₁, BodyLoose p l y (headSpec ws rm) cc maxL ret e s m args below meth c s₁ → c.maxLocals = maxL → Pc args s → s.drawn.sameBut s.drawn cs →
      W p l e (headSpec ws rm).room (s.setDrawn s.drawn) m args below meth c s.heap [] 0 0 (MQD cs below Qc args s mc ms free) (entryFrame m args maxL)) : MetD cs l y ws rm Pc Qc mc ms free := by
  refine MetFree.of_bodySF (code := cc) (maxLocals := maxL) (ret := ret) hy ?_ ?_
  · intro args s m h hn
    obtain ⟨meth, c, h1, h2, h3, h4, h5, h6, -, -⟩ := Cond.code_spec hn (atoms_spec (ws := ws) h _ (by rw [hw]; exact List.mem_cons_self))
    exact ⟨meth, c, h1, h2, h3, h4, h5, h6⟩
  · intro p e s m args below meth c s₁ B hml hP _
    have hh0 : s₁.heap = s.heap := by rw [B.state]; rfl
    have X0 : Stand p l e (headSpec ws rm).room (s.setDrawn s.drawn) m args below meth c s₁ [] 0 0 := Stand.of_body B
    obtain ⟨t, a1, d, hd, o, b1, b2, b3, b4⟩ := body p e s m args below meth c s₁ B hml hP (Drawn.sameBut.refl _ _) s₁ hh0 X0
    exact ⟨t, o, a1, b1, b2, d, hd, b3, b4⟩
section ZC
variable {Γ : zCtx} {R : Room} {μ : zMe} {Φ : zPhi} {kc ks pc : Nat} {ls : List (Option Value)} {st : List Value} {M : List zE}
theorem zPc_blind (Γ : zCtx) (args : List Value) (M : List zE) : FrameBlind (zPc Γ args M) := by
  intro a U g mk h
  obtain ⟨h1, h2, h3, h4, h5⟩ := h
  exact ⟨h1, h2.to (u := U) (U := U.calling g mk a) (State.WarmedH.refl U) (fun q _ _ => rfl) h2.2.2.2.2.2.2.2.2.1, h3, h4, h5⟩
theorem ZM.of {d : Nat} {args : List Value} {Q : List zE → Option Value → Prop} (hk : zMk μ) (hlen : (zEn args).length ≤ μ.2.2.2.1) (h : Z Γ (zRm d μ) μ (zPh Γ μ Q) 0 0 0 (zEn args) [] M) : ZM Γ d μ args M Q := by
  obtain ⟨hk1, hk2, hk3, hk4, hk5, hk6⟩ := hk
  refine z_ofW (cc := μ.2.2.1) (maxL := μ.2.2.2.1) (ret := μ.2.2.2.2.1) hk3 rfl ?_
  intro p e s m av below meth c s₁ B hml hv hd0
  obtain ⟨rfl, hkb, hP, hsz, hn⟩ := hv
  have hts := atoms_spec (ws := zWs μ) B.pre
  have hown : s.vm.findClass μ.1 = some m.cls := by rw [← hk5]; exact findClass_of_methodNamed B.named
  have hs := hkb.2.2.2.2.2.2.2.2.2.2.2
  rw [lg_entry_eq]
  have hl := lv_entry (args.map (zv Γ)) (n := μ.2.2.2.1) (by rw [zEn_len hs]; exact hlen)
  exact h p e s m _ below meth c s.drawn s.heap [] _ ⟨B.exec, B.bytes, B.returns, hml, hown, fun w hw => hts w (List.mem_cons_of_mem _ hw), B.notSynchronized, (name_of_methodNamed B.named B.method).1, hkb⟩ hd0 hP va_S.rf (by rw [hsz]; rfl) hn ⟨hl.1, hl.2.1, fun i v hi => by
    have h1 := zEn_args hs args 0 i v hi
    rw [Nat.zero_add] at h1
    exact hl.2.2 _ h1⟩
theorem Z_iret {Q : List zE → Option Value → Prop} {x : Int32} (hd : decode μ.2.2.1 pc = .ok (.ireturn, 1)) (hr : μ.2.2.2.2.1 = some .int) (hq : Q M (some (.int x))) : Z Γ R μ (zPh Γ μ Q) μ.2.2.2.2.2.1 μ.2.2.2.2.2.2 pc ls [.int x] M := by
  intro p e s m args below meth c d0 H locs la hc hd0 hP hS hz hn hl
  obtain ⟨hx, hb, hrt, hml, hown, hts, hlk, hnm, hkb⟩ := hc
  refine W.endD hd0 ?_
  exact W.iret (s := s.setDrawn d0) hx hb (hrt.trans hr) (fun t ht hW => ⟨⟨some (.int x), M, rfl, hq, hz, hn, by rw [ht]; exact hP⟩, hS.F (s := s.setDrawn d0) ht⟩) hS.2.2 hd hlk
theorem Z_zret {Q : List zE → Option Value → Prop} {x : Int32} {ty : FieldType} (hd : decode μ.2.2.1 pc = .ok (.ireturn, 1)) (hr : μ.2.2.2.2.1 = some ty) (hnr : narrow ty (.int x) = .int x) (hq : Q M (some (.int x))) : Z Γ R μ (zPh Γ μ Q) μ.2.2.2.2.2.1 μ.2.2.2.2.2.2 pc ls [.int x] M := by
  intro p e s m args below meth c d0 H locs la hc hd0 hP hS hz hn hl
  obtain ⟨hx, hb, hrt, hml, hown, hts, hlk, hnm, hkb⟩ := hc
  refine W.endD hd0 ?_
  exact W.zret (s := s.setDrawn d0) hx hb (hrt.trans hr) hnr (fun t ht hW => ⟨⟨some (.int x), M, rfl, hq, hz, hn, by rw [ht]; exact hP⟩, hS.F (s := s.setDrawn d0) ht⟩) hS.2.2 hd hlk
theorem Z_lret {Q : List zE → Option Value → Prop} {x : Int64} (hd : decode μ.2.2.1 pc = .ok (.lreturn, 1)) (hr : μ.2.2.2.2.1 = some .long) (hq : Q M (some (.long x))) : Z Γ R μ (zPh Γ μ Q) μ.2.2.2.2.2.1 μ.2.2.2.2.2.2 pc ls [.long x] M := by
  intro p e s m args below meth c d0 H locs la hc hd0 hP hS hz hn hl
  obtain ⟨hx, hb, hrt, hml, hown, hts, hlk, hnm, hkb⟩ := hc
  refine W.endD hd0 ?_
  exact W.lret (s := s.setDrawn d0) hx hb (hrt.trans hr) (fun t ht hW => ⟨⟨some (.long x), M, rfl, hq, hz, hn, by rw [ht]; exact hP⟩, hS.F (s := s.setDrawn d0) ht⟩) hS.2.2 hd hlk
theorem Z_vret {Q : List zE → Option Value → Prop} (hd : decode μ.2.2.1 pc = .ok (.return_, 1)) (hr : μ.2.2.2.2.1 = none) (hq : Q M none) : Z Γ R μ (zPh Γ μ Q) μ.2.2.2.2.2.1 μ.2.2.2.2.2.2 pc ls [] M := by
  intro p e s m args below meth c d0 H locs la hc hd0 hP hS hz hn hl
  obtain ⟨hx, hb, hrt, hml, hown, hts, hlk, hnm, hkb⟩ := hc
  refine W.endD hd0 ?_
  exact W.vret (s := s.setDrawn d0) hx hb (hrt.trans hr) (fun t ht hW => ⟨⟨none, M, rfl, hq, hz, hn, by rw [ht]; exact hP⟩, hS.F (s := s.setDrawn d0) ht⟩) hS.2.2 hd hlk
theorem Z_aret {Q : List zE → Option Value → Prop} {x : Nat} {rt : FieldType} (hd : decode μ.2.2.1 pc = .ok (.areturn, 1)) (hr : μ.2.2.2.2.1 = some rt) (hrt : (∃ n, rt = .object n) ∨ ∃ t, rt = .array t) (hq : Q M (some (.ref x))) : Z Γ R μ (zPh Γ μ Q) μ.2.2.2.2.2.1 μ.2.2.2.2.2.2 pc ls [.ref x] M := by
  intro p e s m args below meth c d0 H locs la hc hd0 hP hS hz hn hl
  obtain ⟨hx, hb, hrt0, hml, hown, hts, hlk, hnm, hkb⟩ := hc
  refine W.endD hd0 ?_
  exact W.aret (s := s.setDrawn d0) (v := zv Γ (.ref x)) hx hb (hrt0.trans hr) hrt (zv_refs hkb.2.2.2.2.2.2.2.2.2.2.2 x) (fun t ht hW => ⟨⟨some (.ref x), M, rfl, hq, hz, hn, by rw [ht]; exact hP⟩, hS.F (s := s.setDrawn d0) ht⟩) hS.2.2 hd hlk
theorem z_size {p : Program} {e : Env} {s : State} {m : MethodId} {args : Array Value} {below : List Frame} {meth : Method} {c : Code} {d0 : Drawn} {H : Heap} {locs : List Loc} {T : State} (hkb : zKB Γ s) (hP : va_P (zD Γ) zCl (zw Γ M) H) (hS : va_S (zA Γ) s.heap H locs) (hz : s.heap.size + kc = zSz Γ + M.length) (hT : T.heap = H) (X : Stand p (zL Γ) e R (s.setDrawn d0) m args below meth c T locs kc ks) : H.size = zSz Γ + M.length := by
  have h1 : T.heap.size ≤ s.heap.size + kc := X.heapSize
  rw [hT] at h1
  have h2 : zSz Γ + M.length ≤ H.size := by
    cases hM : M.length with
    | zero => exact Nat.le_trans hkb.2.2.2.2.2.2.2.2.1 hS.1
    | succ n =>
      have hlt : n < M.length := by omega
      have h3 : M[n]? = some M[n] := List.getElem?_eq_getElem hlt
      have h4 : zSz Γ + n < H.size := (hP n _ (zw_get h3)).lt
      omega
  omega
theorem z_core {p : Program} {e : Env} {s : State} {m : MethodId} {args a : Array Value} {below : List Frame} {meth : Method} {c : Code} {d0 : Drawn} {H : Heap} {locs : List Loc} {la : Array Slot} {mc ms : Nat} {Q1 : List zE → Option Value → Prop} {stk : List Value}
    (hc : zAt Γ μ p s m args meth c) (hd0 : s.drawn.sameBut d0 lw_cs) (hP : va_P (zD Γ) zCl (zw Γ M) H) (hS : va_S (zA Γ) s.heap H locs) (hz : s.heap.size + kc = zSz Γ + M.length) (hl : zLs Γ la μ.2.2.2.1 ls)
    (hr : va_RunD lw_cs p (zL Γ) e R (s.setDrawn d0) m args below meth c H locs kc ks mc ms (F0 m pc la stk) (st.map (zv Γ)) (zQc Γ mc Q1 a) (zA Γ))
    (kk : ∀ (M1 : List zE) (v : Option Value), Q1 M1 v → M1.length = M.length + mc → Z Γ R μ Φ (kc + mc) (ks + ms) (pc + 3) ls (v.toList ++ st) M1) :
    W p (zL Γ) e R (s.setDrawn d0) m args below meth c H locs kc ks (Φ below args s) (F0 m pc la stk) := by
  intro T hT X
  have hsz := z_size hc.2.2.2.2.2.2.2.2 hP hS hz hT X
  obtain ⟨v, st₀, t, T', L, d', hd', h0, X', hL, e1, e2, ⟨⟨v', M1, hv, hq, hs1, hn1, hp1⟩, hz1, hk1⟩, stp⟩ := hr T hT X
  have hv' : v = v'.map (zv Γ) := by cases hv; rfl
  subst hv'
  rw [h0] at hs1 hz1 hk1
  have hlen : M1.length = M.length + mc := by omega
  have hstk : (v'.map (zv Γ)).toList ++ st.map (zv Γ) = (v'.toList ++ st).map (zv Γ) := by cases v' <;> rfl
  have w := kk M1 v' hq hlen p e s m args below meth c d' T'.heap (locs ++ L) la hc (hd0.trans hd') (by rw [e1]; exact hp1) ⟨by rw [e1]; exact Nat.le_trans hS.1 hz1, fun q h1 h2 => by rw [e1, hk1 q (Nat.lt_of_lt_of_le h1 hS.1) h2]; exact hS.2.1 q h1 h2, fun q hq => by
      rcases List.mem_append.mp hq with h | h
      · exact hS.2.2 q h
      · exact hL q h⟩ (by omega) hn1 hl
  rw [← hstk] at w
  obtain ⟨t2, a1, b1⟩ := w T' rfl X'
  exact ⟨t2, stp t2 a1, b1⟩
theorem z_pre {s U : State} {d0 : Drawn} {args : List Value} {H : Heap} {locs : List Loc} (hkb : zKB Γ s) (hP : va_P (zD Γ) zCl (zw Γ M) H) (hS : va_S (zA Γ) s.heap H locs) (hsz : H.size = zSz Γ + M.length) (hn : M.length ≤ 1000000) (hU : U.heap = H) (hW : (s.setDrawn d0).WarmedH U.vm) : zPc Γ args M (args.map (zv Γ)).toArray U :=
  ⟨rfl, hkb.to (u := s) hW (fun q h1 h2 => by rw [hU]; exact hS.2.1 q h1 h2) (by rw [hU, hsz]; omega), by rw [hU]; exact hP, by rw [hU]; exact hsz, hn⟩
theorem z_callB {μ' : zMe} {d idx n : Nat} {own : String} {s : State} {args : Array Value} {d0 : Drawn} (hts : ∀ w ∈ zG, w.before args s = true) (hk : zMk μ') (hpar : (parseMethodDescriptor μ'.2.1.desc).map (fun d => d.parameters.length) = some n) (hl : Cond.methodLink own idx μ'.2.1 ∈ zG) (hfr : d + 1 ≤ R.frames) (hlo : 64 * (d + 1) ≤ R.locals) :
    CallB R (s.setDrawn d0) args own idx μ'.2.1 μ'.2.2.1 μ'.2.2.2.1 μ'.2.2.2.2.1 (zWs μ') (zRm d μ') μ'.2.2.2.2.2.1 μ'.2.2.2.2.2.2 n := by
  obtain ⟨hk1, hk2, hk3, hk4, hk5, hk6⟩ := hk
  refine ⟨rfl, rfl, hfr, ?_, pay_in (dr_words hts d0) (zG_in _ hk1 zG (fun _ h => h)), List.mem_cons_self, dr_words hts d0 _ hk1, dr_words hts d0 _ hk2, hk4, fun sig h => ?_, dr_words hts d0 _ hl⟩
  · show 8 + (μ'.2.2.2.1 + 11) + 64 * d ≤ R.locals
    omega
  · rw [h] at hpar
    exact (Option.some.inj hpar).symm
theorem z_callN {μ' : zMe} {d idx n : Nat} {own host : String} {s : State} {args : Array Value} {d0 : Drawn} (hts : ∀ w ∈ zG, w.before args s = true) (hkb : zKB Γ s) (hk : zMk μ') (hpar : (parseMethodDescriptor μ'.2.1.desc).map (fun d => d.parameters.length) = some n) (hl : Cond.methodLinkNest own idx μ'.2.1 host ∈ zN) (hfr : d + 1 ≤ R.frames) (hlo : 64 * (d + 1) ≤ R.locals) :
    va_CN R (s.setDrawn d0) args own idx μ'.2.1 host μ'.2.2.1 μ'.2.2.2.1 μ'.2.2.2.2.1 (zWs μ') (zRm d μ') μ'.2.2.2.2.2.1 μ'.2.2.2.2.2.2 n := by
  obtain ⟨hk1, hk2, hk3, hk4, hk5, hk6⟩ := hk
  refine va_cnB n (dr_words hts d0) (zG_in _ hk1 zG (fun _ h => h)) rfl rfl rfl (va_Nw.same rfl rfl (hkb.2.1 _ hl)) (dr_words hts d0 _ hk2) ⟨hk4.1, hk4.2, hpar⟩ ⟨hfr, ?_⟩
  show 8 + (μ'.2.2.2.1 + 11) + 64 * d ≤ R.locals
  omega
theorem z_rest {st : List Value} (hs : ∀ k, zSp Γ k = .null ∨ ∃ a, zSp Γ k = .ref a) (h : (st.map fun v => v.category).sum ≤ 8) : ((st.map (zv Γ)).map fun v => v.category).sum ≤ 8 := by
  rw [List.map_map, show (fun v : Value => v.category) ∘ zv Γ = fun v => v.category from funext fun v => zv_cat hs v]
  exact h
/-- a call on an object whose cell is at hand -/
theorem z_callVr {μ' : zMe} {d idx k b : Nat} {As : List Value} {Q1 : List zE → Option Value → Prop} (hd : decode μ.2.2.1 pc = .ok (.invokevirtual idx, 3)) (hL : zLv μ.1 idx As.length μ') (hb0 : zv Γ (.ref k) = .ref b) (hrec : ∀ (s : State) (H : Heap) (locs : List Loc), zKB Γ s → va_P (zD Γ) zCl (zw Γ M) H → va_S (zA Γ) s.heap H locs → ∃ cellB : Cell, H[b]? = some cellB ∧ cellB.vm.isStatics = false ∧ s.vm.findClass μ'.2.1.cls = some cellB.cls) (hM : ZM Γ d μ' (.ref k :: As) M Q1)
    (hst : (st.map fun v => v.category).sum ≤ 8) (hfr : d + 1 ≤ R.frames) (hlo : 64 * (d + 1) ≤ R.locals) (hce : kc + μ'.2.2.2.2.2.1 ≤ R.cells) (hsl : ks + μ'.2.2.2.2.2.2 ≤ R.slots)
    (kk : ∀ (M1 : List zE) (v : Option Value), Q1 M1 v → M1.length = M.length + μ'.2.2.2.2.2.1 → Z Γ R μ Φ (kc + μ'.2.2.2.2.2.1) (ks + μ'.2.2.2.2.2.2) (pc + 3) ls (v.toList ++ st) M1) : Z Γ R μ Φ kc ks pc ls (As.reverse ++ .ref k :: st) M := by
  intro p e s m args below meth c d0 H locs la hc hd0 hP hS hz hn hl T hT X
  have hc0 := hc
  obtain ⟨hx, hb, hrt, hml, hown, hts, hlk, hnm, hkb⟩ := hc
  have hsz := z_size hkb hP hS hz hT X
  have hs := hkb.2.2.2.2.2.2.2.2.2.2.2
  obtain ⟨⟨hk, hpar, hlink⟩, hin, hsel⟩ := hL
  have hmap : (As.reverse ++ .ref k :: st).map (zv Γ) = (As.map (zv Γ)).reverse ++ .ref b :: st.map (zv Γ) := by
    rw [List.map_append, List.map_reverse, List.map_cons, hb0]
  have hpc : ∀ U : State, U.heap = H → (s.setDrawn d0).WarmedH U.vm → zPc Γ (.ref k :: As) M (Value.ref b :: As.map (zv Γ)).toArray U := fun U hU hW => by
    have h1 := z_pre (args := .ref k :: As) hkb hP hS hsz hn hU hW
    rw [List.map_cons, hb0] at h1
    exact h1
  have hrun : va_RunD lw_cs p (zL Γ) e R (s.setDrawn d0) m args below meth c H locs kc ks μ'.2.2.2.2.2.1 μ'.2.2.2.2.2.2 (F0 m pc la ((As.reverse ++ .ref k :: st).map (zv Γ))) (st.map (zv Γ)) (zQc Γ μ'.2.2.2.2.2.1 Q1 (Value.ref b :: As.map (zv Γ)).toArray) (zA Γ) := by
    rcases hlink with h | ⟨host, h⟩
    · exact va_runV_D (s := s.setDrawn d0) (Ts := zG) ⟨hx, hb, hml, hown, dr_words hts d0⟩ hM ⟨z_callB hts hk hpar h hfr hlo, dr_words hts d0 _ hin, dr_words hts d0 _ hsel⟩ ⟨zPc_blind _ _ _, hrec s H locs hkb hP hS, hpc⟩ rfl (List.length_map ..) hl.1 hmap (lv_room (z_rest hs hst)) hd ⟨hce, hsl⟩
    · exact va_runVN_D (s := s.setDrawn d0) (Ts := zG) ⟨hx, hb, hml, hown, dr_words hts d0⟩ hM ⟨z_callN hts hkb hk hpar h hfr hlo, dr_words hts d0 _ hin, dr_words hts d0 _ hsel⟩ ⟨zPc_blind _ _ _, hrec s H locs hkb hP hS, hpc⟩ rfl (List.length_map ..) hl.1 hmap (lv_room (z_rest hs hst)) hd ⟨hce, hsl⟩
  exact z_core hc0 hd0 hP hS hz hl hrun kk T hT X
theorem Z_callV {μ' : zMe} {d idx k ci N : Nat} {T0 : u_T} {fs As : List Value} {Q1 : List zE → Option Value → Prop} (hd : decode μ.2.2.1 pc = .ok (.invokevirtual idx, 3)) (hL : zLv μ.1 idx As.length μ') (hMk : M[k]? = some (.inr (ci, fs))) (hcl : zCl[ci]? = some (μ'.2.1.cls, T0, N)) (hM : ZM Γ d μ' (.ref k :: As) M Q1)
    (hst : (st.map fun v => v.category).sum ≤ 8) (hfr : d + 1 ≤ R.frames) (hlo : 64 * (d + 1) ≤ R.locals) (hce : kc + μ'.2.2.2.2.2.1 ≤ R.cells) (hsl : ks + μ'.2.2.2.2.2.2 ≤ R.slots)
    (kk : ∀ (M1 : List zE) (v : Option Value), Q1 M1 v → M1.length = M.length + μ'.2.2.2.2.2.1 → Z Γ R μ Φ (kc + μ'.2.2.2.2.2.1) (ks + μ'.2.2.2.2.2.2) (pc + 3) ls (v.toList ++ st) M1) : Z Γ R μ Φ kc ks pc ls (As.reverse ++ .ref k :: st) M := by
  intro p e s m args below meth c d0 H locs la hc hd0 hP hS hz hn hl
  have hk : k < 1000000 := Nat.lt_of_lt_of_le (z_lt hMk) hn
  exact z_callVr hd hL (zv_ref hk) (fun s H locs hkb hP hS => va_recv hkb.1 hP hcl (zw_get hMk)) hM hst hfr hlo hce hsl kk p e s m args below meth c d0 H locs la hc hd0 hP hS hz hn hl
theorem Z_callT {μ' : zMe} {d idx : Nat} {As : List Value} {Q1 : List zE → Option Value → Prop} (hd : decode μ.2.2.1 pc = .ok (.invokestatic idx, 3)) (hL : zLt μ.1 idx As.length μ') (hM : ZM Γ d μ' As M Q1)
    (hst : (st.map fun v => v.category).sum ≤ 8) (hfr : d + 1 ≤ R.frames) (hlo : 64 * (d + 1) ≤ R.locals) (hce : kc + μ'.2.2.2.2.2.1 ≤ R.cells) (hsl : ks + μ'.2.2.2.2.2.2 ≤ R.slots)
    (kk : ∀ (M1 : List zE) (v : Option Value), Q1 M1 v → M1.length = M.length + μ'.2.2.2.2.2.1 → Z Γ R μ Φ (kc + μ'.2.2.2.2.2.1) (ks + μ'.2.2.2.2.2.2) (pc + 3) ls (v.toList ++ st) M1) : Z Γ R μ Φ kc ks pc ls (As.reverse ++ st) M := by
  intro p e s m args below meth c d0 H locs la hc hd0 hP hS hz hn hl T hT X
  have hc0 := hc
  obtain ⟨hx, hb, hrt, hml, hown, hts, hlk, hnm, hkb⟩ := hc
  have hsz := z_size hkb hP hS hz hT X
  have hs := hkb.2.2.2.2.2.2.2.2.2.2.2
  obtain ⟨⟨hk, hpar, hlink⟩, hst0⟩ := hL
  have hmap : (As.reverse ++ st).map (zv Γ) = (As.map (zv Γ)).reverse ++ st.map (zv Γ) := by
    rw [List.map_append, List.map_reverse]
  have hpc : ∀ U : State, U.heap = H → (s.setDrawn d0).WarmedH U.vm → zPc Γ As M (As.map (zv Γ)).toArray U := fun U hU hW => z_pre (args := As) hkb hP hS hsz hn hU hW
  have hrun : va_RunD lw_cs p (zL Γ) e R (s.setDrawn d0) m args below meth c H locs kc ks μ'.2.2.2.2.2.1 μ'.2.2.2.2.2.2 (F0 m pc la ((As.reverse ++ st).map (zv Γ))) (st.map (zv Γ)) (zQc Γ μ'.2.2.2.2.2.1 Q1 (As.map (zv Γ)).toArray) (zA Γ) := by
    rcases hlink with h | ⟨host, h⟩
    · exact va_runS_D (s := s.setDrawn d0) (Ts := zG) ⟨hx, hb, hml, hown, dr_words hts d0⟩ hM ⟨z_callB hts hk hpar h hfr hlo, dr_words hts d0 _ hst0⟩ ⟨zPc_blind _ _ _, hpc⟩ rfl (List.length_map ..) hl.1 hmap (lv_room (z_rest hs hst)) hd ⟨hce, hsl⟩
    · exact va_runSN_D (s := s.setDrawn d0) (Ts := zG) ⟨hx, hb, hml, hown, dr_words hts d0⟩ hM ⟨z_callN hts hkb hk hpar h hfr hlo, dr_words hts d0 _ hst0, trivial⟩ ⟨zPc_blind _ _ _, hpc⟩ rfl (List.length_map ..) hl.1 hmap (lv_room (z_rest hs hst)) hd ⟨hce, hsl⟩
  exact z_core hc0 hd0 hP hS hz hl hrun kk T hT X
theorem Z_callI {μ' : zMe} {d idx k : Nat} {As : List Value} {Q1 : List zE → Option Value → Prop} (hd : decode μ.2.2.1 pc = .ok (.invokespecial idx, 3)) (hL : zLi μ.1 idx As.length μ') (hk0 : k < 1000000) (hM : ZM Γ d μ' (.ref k :: As) M Q1)
    (hst : (st.map fun v => v.category).sum ≤ 8) (hfr : d + 1 ≤ R.frames) (hlo : 64 * (d + 1) ≤ R.locals) (hce : kc + μ'.2.2.2.2.2.1 ≤ R.cells) (hsl : ks + μ'.2.2.2.2.2.2 ≤ R.slots)
    (kk : ∀ (M1 : List zE) (v : Option Value), Q1 M1 v → M1.length = M.length + μ'.2.2.2.2.2.1 → Z Γ R μ Φ (kc + μ'.2.2.2.2.2.1) (ks + μ'.2.2.2.2.2.2) (pc + 3) ls (v.toList ++ st) M1) : Z Γ R μ Φ kc ks pc ls (As.reverse ++ .ref k :: st) M := by
  intro p e s m args below meth c d0 H locs la hc hd0 hP hS hz hn hl T hT X
  have hc0 := hc
  obtain ⟨hx, hb, hrt, hml, hown, hts, hlk, hnm, hkb⟩ := hc
  have hsz := z_size hkb hP hS hz hT X
  have hs := hkb.2.2.2.2.2.2.2.2.2.2.2
  obtain ⟨⟨hk, hpar, hlink⟩, hin, hnam, hret⟩ := hL
  have hb0 := zv_ref (Γ := Γ) hk0
  have hmap : (As.reverse ++ .ref k :: st).map (zv Γ) = (As.map (zv Γ)).reverse ++ .ref (zSz Γ + k) :: st.map (zv Γ) := by
    rw [List.map_append, List.map_reverse, List.map_cons, hb0]
  have hpc : ∀ U : State, U.heap = H → (s.setDrawn d0).WarmedH U.vm → zPc Γ (.ref k :: As) M (Value.ref (zSz Γ + k) :: As.map (zv Γ)).toArray U := fun U hU hW => by
    have h1 := z_pre (args := .ref k :: As) hkb hP hS hsz hn hU hW
    rw [List.map_cons, hb0] at h1
    exact h1
  have hrun : va_RunD lw_cs p (zL Γ) e R (s.setDrawn d0) m args below meth c H locs kc ks μ'.2.2.2.2.2.1 μ'.2.2.2.2.2.2 (F0 m pc la ((As.reverse ++ .ref k :: st).map (zv Γ))) (st.map (zv Γ)) (zQc Γ μ'.2.2.2.2.2.1 Q1 (Value.ref (zSz Γ + k) :: As.map (zv Γ)).toArray) (zA Γ) := by
    rcases hlink with h | ⟨host, h⟩
    · have cb := z_callB (R := R) (d0 := d0) hts hk hpar h hfr hlo
      rw [hret] at cb
      exact va_runI_D (s := s.setDrawn d0) (Ts := zG) ⟨hx, hb, hml, hown, dr_words hts d0⟩ hM ⟨cb, hnam, dr_words hts d0 _ hin⟩ ⟨zPc_blind _ _ _, hpc⟩ rfl (List.length_map ..) hl.1 hmap (lv_room (z_rest hs hst)) hd ⟨hce, hsl⟩
    · have cb := z_callN (R := R) (d0 := d0) hts hkb hk hpar h hfr hlo
      rw [hret] at cb
      exact va_runIN_D (s := s.setDrawn d0) (Ts := zG) ⟨hx, hb, hml, hown, dr_words hts d0⟩ hM ⟨cb, hnam, dr_words hts d0 _ hin⟩ ⟨zPc_blind _ _ _, hpc⟩ rfl (List.length_map ..) hl.1 hmap (lv_room (z_rest hs hst)) hd ⟨hce, hsl⟩
  exact z_core hc0 hd0 hP hS hz hl hrun kk T hT X
end ZC
end
section
/-! making cells; the library's members -/
section ZA
variable {Γ : zCtx} {R : Room} {μ : zMe} {Φ : zPhi} {kc ks pc : Nat} {ls : List (Option Value)} {st : List Value} {M : List zE}
theorem z_push {p : Program} {e : Env} {s : State} {m : MethodId} {args : Array Value} {below : List Frame} {meth : Method} {c : Code} {d0 : Drawn} {H H1 : Heap} {locs : List Loc} {x : zE} (hkb : zKB Γ s) (hP : va_P (zD Γ) zCl (zw Γ M) H) (hS : va_S (zA Γ) s.heap H locs) (hsz : H.size = zSz Γ + M.length) (hz1 : H1.size = H.size + 1) (ho : ∀ q, q < H.size → H1[q]? = H[q]?) (hx : va_at (zD Γ) zCl (zSz Γ + M.length, zc Γ x) H1) : va_P (zD Γ) zCl (zw Γ (M ++ [x])) H1 ∧ va_S (zA Γ) s.heap H1 locs := by
  have hk : ∀ (k : Nat) (q : Nat × va_E), (zw Γ M)[k]? = some q → H1[q.1]? = H[q.1]? := fun k q hq => ho q.1 ((hP k q hq).lt)
  refine ⟨?_, ⟨Nat.le_trans hS.1 (by omega), fun q h1 h2 => (ho q (Nat.lt_of_lt_of_le h1 hS.1)).trans (hS.2.1 q h1 h2), hS.2.2⟩⟩
  rw [zw_app]
  refine (hP.kept hk).app (fun k q hq => ?_)
  have hz : k < 1 := (List.getElem?_eq_some_iff.mp hq).1
  rw [show k = 0 by omega] at hq
  cases hq
  exact hx
theorem Z_new {idx ci N : Nat} {C : String} {T0 : u_T} {fs : List Value} (hd : decode μ.2.2.1 pc = .ok (.new idx, 3)) (hcl : zCl[ci]? = some (C, T0, N)) (hck : zCk ci) (hw : Cond.classLink μ.1 idx C ∈ zG) (hfs : ∀ j, j < N → defaultValue (zTt ci j) = vp_V fs j) (hfv : fs.map (zv Γ) = fs) (hce : kc + 1 ≤ R.cells) (hsl : ks + N ≤ R.slots) (hlen : M.length < 1000000)
    (kk : Z Γ R μ Φ (kc + 1) (ks + N) (pc + 3) ls (.ref M.length :: st) (M ++ [.inr (ci, fs)])) : Z Γ R μ Φ kc ks pc ls st M := by
  intro p e s m args below meth c d0 H locs la hc hd0 hP hS hz hn hl T hT X
  have hc0 := hc
  obtain ⟨hx, hb, hrt, hml, hown, hts, hlk, hnm, hkb⟩ := hc
  have hsz := z_size hkb hP hS hz hT X
  obtain ⟨c1, c2, c3, c4, c5, c6⟩ := hck C T0 N hcl
  have hKn := hkb.1.1 ci _ hcl
  refine W.newcK (s := s.setDrawn d0) (g := F0 m pc la (st.map (zv Γ))) hx hb hown (dr_words hts d0 _ hw) (dr_words hts d0 _ c5) (dr_words hts d0 _ c6) rfl hd hce hsl hKn.2.1 hsz (fun H1 kC hkC e1 z1 o1 => ?_) T hT X
  have hat : va_at (zD Γ) zCl (zSz Γ + M.length, zc Γ (.inr (ci, fs))) H1 := by
    show va_at (zD Γ) zCl (zSz Γ + M.length, .inr (ci, fs.map (zv Γ))) H1
    rw [hfv]
    exact ⟨_, hcl, (u_born (s := s.setDrawn d0) (zTt ci) (dr_words hts d0) c1 hKn hkC e1 c2).to hfs⟩
  obtain ⟨hP1, hS1⟩ := z_push (p := p) (e := e) (m := m) (args := args) (below := below) (meth := meth) (c := c) (d0 := d0) hkb hP hS hsz (by omega) (fun q hq => o1 q (by omega)) hat
  have w := kk p e s m args below meth c d0 H1 locs la hc0 hd0 hP1 hS1 (by rw [List.length_append]; simp only [List.length_cons, List.length_nil]; omega) (by rw [List.length_append]; simp only [List.length_cons, List.length_nil]; omega) hl
  rw [List.map_cons, zv_ref hlen] at w
  exact w
/-- an array of ints, longs or booleans -/
def zZero (t : Nat) (n : Nat) : vp_A := match t with
  | 1 => (n, .inr (.inl (fun _ => 0)))
  | _ => (n, .inl (fun _ => 0))
def zAt0 (t : Nat) : ArrayType := match t with
  | 0 => .int
  | 1 => .long
  | _ => .boolean
theorem Z_newa {t N : Nat} {n : Int32} (ht : t < 3) (hd : decode μ.2.2.1 pc = .ok (.newarray (zAt0 t), 2)) (hw : Cond.arrayClass (zTy t) ∈ zG) (hn0 : ¬ n < 0) (hN : n.toNatClampNeg = N) (hb8 : N * 8 ≤ 536870912) (hce : kc + 1 ≤ R.cells) (hsl : ks + N ≤ R.slots) (hlen : M.length < 1000000)
    (kk : Z Γ R μ Φ (kc + 1) (ks + N) (pc + 2) ls (.ref M.length :: st) (M ++ [.inl (t, zZero t N)])) : Z Γ R μ Φ kc ks pc ls (.int n :: st) M := by
  intro p e s m args below meth c d0 H locs la hc hd0 hP hS hz hn hl T hT X
  have hc0 := hc
  obtain ⟨hx, hb, hrt, hml, hown, hts, hlk, hnm, hkb⟩ := hc
  have hsz := z_size hkb hP hS hz hT X
  have hty : newarray.typeOf (zAt0 t) = zTy t := by
    match t, ht with
    | 0, _ => rfl
    | 1, _ => rfl
    | 2, _ => rfl
  have hby : N * componentBytes (newarray.typeOf (zAt0 t)) ≤ 536870912 := by
    rw [hty]
    have h8 : componentBytes (zTy t) ≤ 8 := by
      match t, ht with
      | 0, _ => decide
      | 1, _ => decide
      | 2, _ => decide
    exact Nat.le_trans (Nat.mul_le_mul_left N h8) hb8
  refine va_newaK (s := s.setDrawn d0) (atype := zAt0 t) (g := F0 m pc la (.int n :: st.map (zv Γ))) hx hb (by rw [hty]; exact dr_words hts d0 _ hw) rfl hd rfl hn0 hN hby hce hsl hsz (fun H1 cA e1 z1 o1 hAr hfc => ?_) T hT X
  have hcA : cA = zAr Γ t := by
    rw [hty] at hfc
    have h2 : s.vm.findClass ("[" ++ (zTy t).toString) = some (zAr Γ t) := by
      match t, ht with
      | 0, _ => exact (hkb.1.2 0 _ rfl).2
      | 1, _ => exact (hkb.1.2 1 _ rfl).2
      | 2, _ => exact (hkb.1.2 2 _ rfl).2
    exact Option.some.inj (hfc.symm.trans h2)
  subst hcA
  have hat : va_at (zD Γ) zCl (zSz Γ + M.length, zc Γ (.inl (t, zZero t N))) H1 := by
    rw [hty] at e1
    match t, ht, e1 with
    | 0, _, e1 => exact e1
    | 1, _, e1 => exact e1
    | 2, _, e1 => exact e1
  obtain ⟨hP1, hS1⟩ := z_push (p := p) (e := e) (m := m) (args := args) (below := below) (meth := meth) (c := c) (d0 := d0) hkb hP hS hsz (by omega) (fun q hq => o1 q (by omega)) hat
  have w := kk p e s m args below meth c d0 H1 locs la hc0 hd0 hP1 hS1 (by rw [List.length_append]; simp only [List.length_cons, List.length_nil]; omega) (by rw [List.length_append]; simp only [List.length_cons, List.length_nil]; omega) hl
  rw [List.map_cons, zv_ref hlen] at w
  exact w
theorem z_rows {x : zE} : ∀ (n : Nat) (M : List zE) (H1 : Heap), va_P (zD Γ) zCl (zw Γ M) H1 → (∀ j, j < n → va_at (zD Γ) zCl (zSz Γ + M.length + j, zc Γ x) H1) → va_P (zD Γ) zCl (zw Γ (M ++ List.replicate n x)) H1
  | 0, M, H1, h, _ => by rw [List.replicate_zero, List.append_nil]; exact h
  | n + 1, M, H1, h, hr => by
    have h1 : va_P (zD Γ) zCl (zw Γ (M ++ [x])) H1 := by
      rw [zw_app]
      refine h.app (fun k q hq => ?_)
      have hz : k < 1 := (List.getElem?_eq_some_iff.mp hq).1
      rw [show k = 0 by omega] at hq
      cases hq
      exact hr 0 (by omega)
    have h2 := z_rows n (M ++ [x]) H1 h1 (fun j hj => by
      have h3 := hr (j + 1) (by omega)
      rw [List.length_append, show ([x] : List zE).length = 1 from rfl, show zSz Γ + (M.length + 1) + j = zSz Γ + M.length + (j + 1) by omega]
      exact h3)
    rw [List.append_assoc] at h2
    exact h2
theorem z_outer (c : ClassId) (N h0 : Nat) : ∀ i : Nat, Jvm.Free.Multi.outerC c N h0 i = arrV c N (fun j => va_rf (if j < i then some (h0 + 1 + j) else none))
  | 0 => by
    show ({ cls := c, slots := Array.replicate N .null, vm := .none } : Cell) = _
    rw [arrV_new]
    refine congrArg (arrV c N) (funext fun j => ?_)
    simp [va_rf]
  | i + 1 => by
    show (Jvm.Free.Multi.outerC c N h0 i).setSlot i (.ref (h0 + 1 + i)) = _
    rw [z_outer c N h0 i, arrV_store]
    refine congrArg (arrV c N) (funext fun j => ?_)
    by_cases e : j = i
    · subst e
      simp [updV, va_rf]
    · by_cases h : j < i
      · simp [updV, e, h, Nat.lt_succ_of_lt h]
      · simp [updV, e, h, show ¬ j < i + 1 by omega]
/-- new int[n][k] -/
theorem Z_mna {idx N K : Nat} {n k : Int32} (hd : decode μ.2.2.1 pc = .ok (.multianewarray idx 2, 4)) (hw : Cond.classLink μ.1 idx "[[I" ∈ zG) (hw2 : Cond.arrayClass .int ∈ zG) (hn0 : ¬ n < 0) (hk0 : ¬ k < 0) (hN : n.toNatClampNeg = N) (hK : k.toNatClampNeg = K) (hN9 : N ≤ 1000) (hK9 : K ≤ 1000) (hce : kc + (1 + N) ≤ R.cells) (hsl : ks + (N + N * K) ≤ R.slots) (hlen : M.length + 1 + N ≤ 1000000)
    (kk : Z Γ R μ Φ (kc + 1 + N) (ks + N + N * K) (pc + 4) ls (.ref M.length :: st) ((M ++ [.inl (3, N, .inr (.inr (.inr (.inr (fun i => if i < N then some (M.length + 1 + i) else none)))))]) ++ List.replicate N (.inl (0, K, .inl (fun _ => 0))))) : Z Γ R μ Φ kc ks pc ls (.int k :: .int n :: st) M := by
  subst hN
  subst hK
  intro p e s m args below meth c d0 H locs la hc hd0 hP hS hz hn hl T hT X
  have hc0 := hc
  obtain ⟨hx, hb, hrt, hml, hown, hts, hlk, hnm, hkb⟩ := hc
  have hsz := z_size hkb hP hS hz hT X
  obtain ⟨vm₁, cA, comp, -, fA, fC, hO, -, X', step⟩ := X.multianewarray2F (ty := .int) hx hown (dr_words hts d0 _ hw) ((Cond.before_setDrawn args s d0 _).trans hkb.2.2.2.2.2.2.2.2.2.2.1.2) (dr_words hts d0 _ hw2) (g := F0 m pc la (.int k :: .int n :: st.map (zv Γ))) rfl (by rw [hb]; exact hd) rfl hn0 hk0 (by omega) (by have h4 : componentBytes .int = 4 := rfl; rw [h4]; omega) (by omega) rfl rfl hce hsl
  have e1 : cA = zAr Γ 3 := by
    have h2 : s.vm.findClass ("[" ++ (FieldType.array .int).toString) = some (zAr Γ 3) := (hkb.1.2 3 _ rfl).2
    exact Option.some.inj (fA.symm.trans h2)
  have e2 : comp = zAr Γ 0 := by
    have h2 : s.vm.findClass ("[" ++ (FieldType.int).toString) = some (zAr Γ 0) := (hkb.1.2 0 _ rfl).2
    exact Option.some.inj (fC.symm.trans h2)
  subst e1
  subst e2
  generalize hF : Jvm.Free.Multi.fill (T.setVm vm₁) (zAr Γ 3) (zAr Γ 0) n.toNatClampNeg k.toNatClampNeg (defaultValue .int) n.toNatClampNeg = F at X' step
  have hTh : (T.setVm vm₁).heap = H := hT
  obtain ⟨f1, f2, -, -⟩ := Jvm.Free.Multi.fill_facts (T.setVm vm₁) (zAr Γ 3) (zAr Γ 0) n.toNatClampNeg k.toNatClampNeg (defaultValue .int) n.toNatClampNeg
  rw [hF, hTh] at f1 f2
  have hold : ∀ x : Nat, x < H.size → F.heap[x]? = H[x]? := fun x hx => by
    have := Jvm.Free.Multi.fill_old (T.setVm vm₁) (zAr Γ 3) (zAr Γ 0) n.toNatClampNeg k.toNatClampNeg (defaultValue .int) (a := x) (by rw [hTh]; exact hx) n.toNatClampNeg
    rw [hF, hTh] at this
    exact this
  have hrow : ∀ j : Nat, j < n.toNatClampNeg → F.heap[H.size + 1 + j]? = some (arrV (zAr Γ 0) k.toNatClampNeg (fun _ => .int 0)) := fun j hj => by
    have := Jvm.Free.Multi.fill_inner (T.setVm vm₁) (zAr Γ 3) (zAr Γ 0) n.toNatClampNeg k.toNatClampNeg (defaultValue .int) n.toNatClampNeg j hj
    rw [hF, hTh] at this
    rw [this]
    show some ({ cls := zAr Γ 0, slots := Array.replicate k.toNatClampNeg (.int 0), vm := .none } : Cell) = _
    rw [arrV_new]
  rw [z_outer] at f2
  have hP0 : va_P (zD Γ) zCl (zw Γ M) F.heap := hP.kept (fun k9 x hx => hold x.1 ((hP k9 x hx).lt))
  have hP1 : va_P (zD Γ) zCl (zw Γ (M ++ [.inl (3, n.toNatClampNeg, .inr (.inr (.inr (.inr (fun i => if i < n.toNatClampNeg then some (M.length + 1 + i) else none)))))])) F.heap := by
    rw [zw_app]
    refine hP0.app (fun k9 q hq => ?_)
    have hz9 : k9 < 1 := (List.getElem?_eq_some_iff.mp hq).1
    rw [show k9 = 0 by omega] at hq
    cases hq
    show F.heap[zSz Γ + M.length]? = some (arrV (zAr Γ 3) n.toNatClampNeg (fun j => va_rf ((if j < n.toNatClampNeg then some (M.length + 1 + j) else none).map (fun k => zSz Γ + k))))
    rw [← hsz, f2]
    congr 2
    funext j
    by_cases hj : j < n.toNatClampNeg
    · simp only [hj, if_true, Option.map_some]
      congr 2
      omega
    · simp only [hj, if_false, Option.map_none]
  have hP2 := z_rows (x := .inl (0, k.toNatClampNeg, .inl (fun _ => 0))) n.toNatClampNeg _ F.heap hP1 (fun j hj => by
    show F.heap[zSz Γ + _ + j]? = some (arrV (zAr Γ 0) k.toNatClampNeg (fun _ => .int 0))
    rw [List.length_append, ← hrow j hj, hsz]
    simp only [List.length_cons, List.length_nil]
    congr 1
    )
  have hS2 : va_S (zA Γ) s.heap F.heap locs := ⟨by rw [f1]; have := hS.1; omega, fun x h1 h2 => (hold x (Nat.lt_of_lt_of_le h1 hS.1)).trans (hS.2.1 x h1 h2), hS.2.2⟩
  have hll : ∀ (x : zE) (y : zE), ((M ++ [x]) ++ List.replicate n.toNatClampNeg y).length = M.length + 1 + n.toNatClampNeg := fun x y => by
    rw [List.length_append, List.length_append, List.length_replicate]; rfl
  have w := kk p e s m args below meth c d0 F.heap locs la hc0 hd0 hP2 hS2 (by rw [hll]; omega) (by rw [hll]; exact hlen) hl
  rw [List.map_cons, zv_ref (by omega), ← hsz] at w
  obtain ⟨t, a1, b1⟩ := w F rfl X'
  refine ⟨t, step t ?_, b1⟩
  have e : T.heap.size = H.size := by rw [hT]
  rw [e]
  exact a1
theorem Z_objInit {idx k : Nat} (hd : decode μ.2.2.1 pc = .ok (.invokespecial idx, 3)) (hw : Cond.methodLink μ.1 idx Lib.objectInit ∈ zG) (hw1 : Cond.instanceMethod Lib.objectInit ∈ zG) (hw2 : Cond.code Lib.objectInit ⟨#[0xb1]⟩ 1 none ∈ zG) (hk : k < 1000000) (hst : (st.map fun v => v.category).sum ≤ 8) (hfr : 1 ≤ R.frames) (hlo : 64 ≤ R.locals) (kk : Z Γ R μ Φ kc ks (pc + 3) ls st M) : Z Γ R μ Φ kc ks pc ls (.ref k :: st) M := by
  intro p e s m args below meth c d0 H locs la hc hd0 hP hS hz hn hl
  have k1 := kk p e s m args below meth c d0 H locs la hc hd0 hP hS hz hn hl
  obtain ⟨hx, hb, hrt, hml, hown, hts, hlk, hnm, hkb⟩ := hc
  have h8 := z_rest hkb.2.2.2.2.2.2.2.2.2.2.2 hst
  rw [List.map_cons, zv_ref hk]
  refine W.objInit (s := s.setDrawn d0) (g := F0 m pc la (.ref (zSz Γ + k) :: st.map (zv Γ))) hx hb hown (dr_words hts d0 _ hw) (dr_words hts d0 _ hw1) (dr_words hts d0 _ hw2) rfl (hl.1.trans hml.symm) rfl hd hfr ?_ k1
  show 2 * 0 + _ + 12 ≤ R.locals
  omega
theorem Z_mmin {idx : Nat} {x y : Int32} (hd : decode μ.2.2.1 pc = .ok (.invokestatic idx, 3)) (hw : Cond.methodLink μ.1 idx Lib.Math.min.name ∈ zG) (hw1 : Cond.static Lib.Math.min.name ∈ zG) (hw2 : Cond.initialized "java/lang/Math" ∈ zG) (hw3 : Cond.code Lib.Math.min.name Lib.Math.min.code 2 (some .int) ∈ zG) (hst : (st.map fun v => v.category).sum ≤ 8) (hfr : 1 ≤ R.frames) (hlo : 64 ≤ R.locals) (hce : kc ≤ R.cells) (hsl : ks ≤ R.slots) (kk : Z Γ R μ Φ kc ks (pc + 3) ls (.int (if y < x then y else x) :: st) M) : Z Γ R μ Φ kc ks pc ls (.int y :: .int x :: st) M := by
  intro p e s m args below meth c d0 H locs la hc hd0 hP hS hz hn hl
  have k1 := kk p e s m args below meth c d0 H locs la hc hd0 hP hS hz hn hl
  obtain ⟨hx, hb, hrt, hml, hown, hts, hlk, hnm, hkb⟩ := hc
  have h8 := z_rest hkb.2.2.2.2.2.2.2.2.2.2.2 hst
  exact va_mmin (s := s.setDrawn d0) hx hb (hml.trans hl.1.symm) hown (dr_words hts d0 _ hw) (dr_words hts d0 _ hw1) (dr_words hts d0 _ hw2) (dr_words hts d0 _ hw3) hfr (by omega) hce hsl hd k1
theorem Z_mmax {idx : Nat} {x y : Int32} (hd : decode μ.2.2.1 pc = .ok (.invokestatic idx, 3)) (hw : Cond.methodLink μ.1 idx Lib.Math.max.name ∈ zG) (hw1 : Cond.static Lib.Math.max.name ∈ zG) (hw2 : Cond.initialized "java/lang/Math" ∈ zG) (hw3 : Cond.code Lib.Math.max.name Lib.Math.max.code 2 (some .int) ∈ zG) (hst : (st.map fun v => v.category).sum ≤ 8) (hfr : 1 ≤ R.frames) (hlo : 64 ≤ R.locals) (hce : kc ≤ R.cells) (hsl : ks ≤ R.slots) (kk : Z Γ R μ Φ kc ks (pc + 3) ls (.int (if x < y then y else x) :: st) M) : Z Γ R μ Φ kc ks pc ls (.int y :: .int x :: st) M := by
  intro p e s m args below meth c d0 H locs la hc hd0 hP hS hz hn hl
  have k1 := kk p e s m args below meth c d0 H locs la hc hd0 hP hS hz hn hl
  obtain ⟨hx, hb, hrt, hml, hown, hts, hlk, hnm, hkb⟩ := hc
  have h8 := z_rest hkb.2.2.2.2.2.2.2.2.2.2.2 hst
  exact va_mmax (s := s.setDrawn d0) hx hb (hml.trans hl.1.symm) hown (dr_words hts d0 _ hw) (dr_words hts d0 _ hw1) (dr_words hts d0 _ hw2) (dr_words hts d0 _ hw3) hfr (by omega) hce hsl hd k1
def zCpW (own : String) (idx : Nat) : Prop := Cond.methodLink own idx arraycopyName ∈ zG ∧ Cond.native arraycopyName ∈ zG ∧ Cond.static arraycopyName ∈ zG ∧ Cond.initialized "java/lang/System" ∈ zG
theorem Z_copyi {idx k0 k1 n0 n1 : Nat} {f g : Nat → Int32} {sp dp n : Int32} (hd : decode μ.2.2.1 pc = .ok (.invokestatic idx, 3)) (hw : zCpW μ.1 idx) (hM0 : M[k0]? = some (.inl (0, n0, .inl f))) (hM1 : M[k1]? = some (.inl (0, n1, .inl g))) (h1 : ¬ sp < 0) (h2 : ¬ dp < 0) (h3 : ¬ n < 0) (h4 : sp.toNatClampNeg + n.toNatClampNeg ≤ n0) (h5 : dp.toNatClampNeg + n.toNatClampNeg ≤ n1) (hst : (st.map fun v => v.category).sum ≤ 8) (hfr : 1 ≤ R.frames) (hlo : 64 ≤ R.locals)
    (kk : Z Γ R μ Φ kc ks (pc + 3) ls st (M.set k1 (.inl (0, n1, .inl (va_cpy f g sp.toNatClampNeg dp.toNatClampNeg n.toNatClampNeg))))) : Z Γ R μ Φ kc ks pc ls (.int n :: .int dp :: .ref k1 :: .int sp :: .ref k0 :: st) M := by
  intro p e s m args below meth c d0 H locs la hc hd0 hP hS hz hn hl
  have hk0 : k0 < 1000000 := Nat.lt_of_lt_of_le (z_lt hM0) hn
  have hk1 : k1 < 1000000 := Nat.lt_of_lt_of_le (z_lt hM1) hn
  have hc0 := hc
  obtain ⟨hx, hb, hrt, hml, hown, hts, hlk, hnm, hkb⟩ := hc
  obtain ⟨w1, w2, w3, w4⟩ := hw
  have h8 := z_rest hkb.2.2.2.2.2.2.2.2.2.2.2 hst
  have hnf : nativeFrameWords "java/lang/System" "arraycopy" 5 = 7 := by decide
  simp only [List.map_cons, zv_ref hk0, zv_ref hk1]
  exact va_copyi (s := s.setDrawn d0) hx hb (hml.trans hl.1.symm) hown (dr_words hts d0 _ w1) (dr_words hts d0 _ w2) (dr_words hts d0 _ w3) (dr_words hts d0 _ w4) hkb.1 hP (zw_D Γ M) hS k0 k1 0 0 (zw_get hM0) (zw_get hM1) rfl rfl rfl h1 h2 h3 h4 h5 (fun i _ => rfl) hfr (by rw [hnf]; omega) hd (fun H1 locs1 hP1 hD1 hS1 => kk p e s m args below meth c d0 H1 locs1 la hc0 hd0 (by rw [zw_set]; exact hP1) hS1 (by rw [List.length_set]; exact hz) (by rw [List.length_set]; exact hn) hl)
theorem Z_copyl {idx k0 k1 n0 n1 : Nat} {f g : Nat → Int64} {sp dp n : Int32} (hd : decode μ.2.2.1 pc = .ok (.invokestatic idx, 3)) (hw : zCpW μ.1 idx) (hM0 : M[k0]? = some (.inl (1, n0, .inr (.inl f)))) (hM1 : M[k1]? = some (.inl (1, n1, .inr (.inl g)))) (h1 : ¬ sp < 0) (h2 : ¬ dp < 0) (h3 : ¬ n < 0) (h4 : sp.toNatClampNeg + n.toNatClampNeg ≤ n0) (h5 : dp.toNatClampNeg + n.toNatClampNeg ≤ n1) (hst : (st.map fun v => v.category).sum ≤ 8) (hfr : 1 ≤ R.frames) (hlo : 64 ≤ R.locals)
    (kk : Z Γ R μ Φ kc ks (pc + 3) ls st (M.set k1 (.inl (1, n1, .inr (.inl (va_cpy f g sp.toNatClampNeg dp.toNatClampNeg n.toNatClampNeg)))))) : Z Γ R μ Φ kc ks pc ls (.int n :: .int dp :: .ref k1 :: .int sp :: .ref k0 :: st) M := by
  intro p e s m args below meth c d0 H locs la hc hd0 hP hS hz hn hl
  have hk0 : k0 < 1000000 := Nat.lt_of_lt_of_le (z_lt hM0) hn
  have hk1 : k1 < 1000000 := Nat.lt_of_lt_of_le (z_lt hM1) hn
  have hc0 := hc
  obtain ⟨hx, hb, hrt, hml, hown, hts, hlk, hnm, hkb⟩ := hc
  obtain ⟨w1, w2, w3, w4⟩ := hw
  have h8 := z_rest hkb.2.2.2.2.2.2.2.2.2.2.2 hst
  have hnf : nativeFrameWords "java/lang/System" "arraycopy" 5 = 7 := by decide
  simp only [List.map_cons, zv_ref hk0, zv_ref hk1]
  exact va_copyl (s := s.setDrawn d0) hx hb (hml.trans hl.1.symm) hown (dr_words hts d0 _ w1) (dr_words hts d0 _ w2) (dr_words hts d0 _ w3) (dr_words hts d0 _ w4) hkb.1 hP (zw_D Γ M) hS k0 k1 1 1 (zw_get hM0) (zw_get hM1) rfl rfl rfl h1 h2 h3 h4 h5 (fun i _ => rfl) hfr (by rw [hnf]; omega) hd (fun H1 locs1 hP1 hD1 hS1 => kk p e s m args below meth c d0 H1 locs1 la hc0 hd0 (by rw [zw_set]; exact hP1) hS1 (by rw [List.length_set]; exact hz) (by rw [List.length_set]; exact hn) hl)
end ZA
end
section
/-! texts, statics, raw bits -/
section ZS
variable {Γ : zCtx} {R : Room} {μ : zMe} {Φ : zPhi} {kc ks pc : Nat} {ls : List (Option Value)} {st : List Value} {M : List zE}
theorem zStr_lt {i : Nat} {q : String × Nat × String × List Int32} (h : zStr[i]? = some q) : i < 12 := (List.getElem?_eq_some_iff.mp h).1
theorem z_spk {i : Nat} (hi : i < 12) {s : State} (hkb : zKB Γ s) : zv Γ (.ref (1000001 + i)) = .ref (zKs Γ i) ∧ zv Γ (.ref (1000101 + i)) = .ref (zVs Γ i) := by
  have h := hkb.2.2.2.2.2.2.2.2.2.2.1.1 i hi
  refine ⟨?_, ?_⟩
  · show (if 1000001 + i < 1000000 then Value.ref (zSz Γ + (1000001 + i)) else zSp Γ (1000001 + i - 1000000)) = _
    rw [if_neg (by omega), show 1000001 + i - 1000000 = 1 + i by omega]
    exact h.1
  · show (if 1000101 + i < 1000000 then Value.ref (zSz Γ + (1000101 + i)) else zSp Γ (1000101 + i - 1000000)) = _
    rw [if_neg (by omega), show 1000101 + i - 1000000 = 101 + i by omega]
    exact h.2
theorem Z_ldcS {i idx : Nat} {tx : String} {bs : List Int32} (hi : zStr[i]? = some (μ.1, idx, tx, bs)) (hd : decode μ.2.2.1 pc = .ok (.ldc idx, 2)) (kk : Z Γ R μ Φ kc ks (pc + 2) ls (.ref (1000001 + i) :: st) M) : Z Γ R μ Φ kc ks pc ls st M := by
  intro p e s m args below meth c d0 H locs la hc hd0 hP hS hz hn hl
  have k1 := kk p e s m args below meth c d0 H locs la hc hd0 hP hS hz hn hl
  obtain ⟨hx, hb, hrt, hml, hown, hts, hlk, hnm, hkb⟩ := hc
  rw [List.map_cons, (z_spk (zStr_lt hi) hkb).1] at k1
  exact va_ldcS (s := s.setDrawn d0) hx hb hown (vk_R.same (u := s) rfl (hkb.2.2.1 i _ hi)) hd k1
theorem Z_strV {i idx : Nat} (hi : i < 12) (hd : decode μ.2.2.1 pc = .ok (.getfield idx, 3)) (hw : Cond.fieldLink μ.1 idx "java/lang/String" "value" "[B" ∈ zG) (kk : Z Γ R μ Φ kc ks (pc + 3) ls (.ref (1000101 + i) :: st) M) : Z Γ R μ Φ kc ks pc ls (.ref (1000001 + i) :: st) M := by
  intro p e s m args below meth c d0 H locs la hc hd0 hP hS hz hn hl
  have k1 := kk p e s m args below meth c d0 H locs la hc hd0 hP hS hz hn hl
  obtain ⟨hx, hb, hrt, hml, hown, hts, hlk, hnm, hkb⟩ := hc
  rw [List.map_cons, (z_spk hi hkb).2] at k1
  rw [List.map_cons, (z_spk hi hkb).1]
  exact vk_getf (s := s.setDrawn d0) hx hb (hkb.2.2.2.1.1 i hi).2.2.1 hS hown (dr_words hts d0 _ hw) (fun _ h => h) hd k1
theorem Z_strC {i idx : Nat} (hi : i < 12) (hd : decode μ.2.2.1 pc = .ok (.getfield idx, 3)) (hw : Cond.fieldLink μ.1 idx "java/lang/String" "coder" "B" ∈ zG) (kk : Z Γ R μ Φ kc ks (pc + 3) ls (.int 0 :: st) M) : Z Γ R μ Φ kc ks pc ls (.ref (1000001 + i) :: st) M := by
  intro p e s m args below meth c d0 H locs la hc hd0 hP hS hz hn hl
  have k1 := kk p e s m args below meth c d0 H locs la hc hd0 hP hS hz hn hl
  obtain ⟨hx, hb, hrt, hml, hown, hts, hlk, hnm, hkb⟩ := hc
  rw [List.map_cons, (z_spk hi hkb).1]
  exact vk_getf (s := s.setDrawn d0) hx hb (hkb.2.2.2.1.1 i hi).2.1 hS hown (dr_words hts d0 _ hw) (fun _ h => h) hd k1
theorem Z_strLd {i : Nat} {q : String × Nat × String × List Int32} {j : Int32} (hi : zStr[i]? = some q) (hj : vp_in j q.2.2.2.length) (hd : decode μ.2.2.1 pc = .ok (.baload, 1)) (kk : Z Γ R μ Φ kc ks (pc + 1) ls (.int (q.2.2.2.getD j.toNatClampNeg 0) :: st) M) : Z Γ R μ Φ kc ks pc ls (.int j :: .ref (1000101 + i) :: st) M := by
  intro p e s m args below meth c d0 H locs la hc hd0 hP hS hz hn hl
  have k1 := kk p e s m args below meth c d0 H locs la hc hd0 hP hS hz hn hl
  obtain ⟨hx, hb, hrt, hml, hown, hts, hlk, hnm, hkb⟩ := hc
  have hi9 := zStr_lt hi
  have hT := (hkb.2.2.2.1.1 i hi9).2.2.2
  have e1 : (zStr.map (fun q => q.2.2.2.length)).getD i 0 = q.2.2.2.length := by simp [List.getD, hi]
  have e2 : (zStr.map (fun q => q.2.2.2)).getD i [] = q.2.2.2 := by simp [List.getD, hi]
  rw [e1, e2] at hT
  rw [List.map_cons, List.map_cons, (z_spk hi9 hkb).2]
  exact va_tb (s := s.setDrawn d0) hx hb hT hS hj rfl hd k1
theorem Z_strLen {i : Nat} {q : String × Nat × String × List Int32} (hi : zStr[i]? = some q) (hd : decode μ.2.2.1 pc = .ok (.arraylength, 1)) (kk : Z Γ R μ Φ kc ks (pc + 1) ls (.int (Int32.ofNat q.2.2.2.length) :: st) M) : Z Γ R μ Φ kc ks pc ls (.ref (1000101 + i) :: st) M := by
  intro p e s m args below meth c d0 H locs la hc hd0 hP hS hz hn hl
  have k1 := kk p e s m args below meth c d0 H locs la hc hd0 hP hS hz hn hl
  obtain ⟨hx, hb, hrt, hml, hown, hts, hlk, hnm, hkb⟩ := hc
  have hi9 := zStr_lt hi
  have hT := (hkb.2.2.2.1.1 i hi9).2.2.2
  have e1 : (zStr.map (fun q => q.2.2.2.length)).getD i 0 = q.2.2.2.length := by simp [List.getD, hi]
  rw [e1] at hT
  rw [List.map_cons, (z_spk hi9 hkb).2]
  exact va_tlen (s := s.setDrawn d0) hx hb hT hS rfl hd k1
theorem Z_getsZ {idx : Nat} (hd : decode μ.2.2.1 pc = .ok (.getstatic idx, 3)) (hw : Cond.fieldLink μ.1 idx "java/lang/String" "COMPACT_STRINGS" "Z" ∈ zG) (kk : Z Γ R μ Φ kc ks (pc + 3) ls (.int 1 :: st) M) : Z Γ R μ Φ kc ks pc ls st M := by
  intro p e s m args below meth c d0 H locs la hc hd0 hP hS hz hn hl
  have k1 := kk p e s m args below meth c d0 H locs la hc hd0 hP hS hz hn hl
  obtain ⟨hx, hb, hrt, hml, hown, hts, hlk, hnm, hkb⟩ := hc
  exact va_gets (s := s.setDrawn d0) hx hb hkb.2.2.2.2.2.1 hS hown (dr_words hts d0 _ hw) (fun _ h => h) hd k1
theorem Z_getsF {idx : Nat} (hd : decode μ.2.2.1 pc = .ok (.getstatic idx, 3)) (hw : Cond.fieldLink μ.1 idx "jdk/internal/util/Preconditions" "SIOOBE_FORMATTER" "Ljava/util/function/BiFunction;" ∈ zG) (kk : Z Γ R μ Φ kc ks (pc + 3) ls (.ref 1000200 :: st) M) : Z Γ R μ Φ kc ks pc ls st M := by
  intro p e s m args below meth c d0 H locs la hc hd0 hP hS hz hn hl
  have k1 := kk p e s m args below meth c d0 H locs la hc hd0 hP hS hz hn hl
  obtain ⟨hx, hb, hrt, hml, hown, hts, hlk, hnm, hkb⟩ := hc
  exact va_gets (s := s.setDrawn d0) hx hb hkb.2.2.2.2.2.2.1 hS hown (dr_words hts d0 _ hw) (fun _ h => h) hd k1
/-- a call on a text -/
theorem Z_callStr {μ' : zMe} {d idx i : Nat} {As : List Value} {Q1 : List zE → Option Value → Prop} (hi : i < 12) (hd : decode μ.2.2.1 pc = .ok (.invokevirtual idx, 3)) (hL : zLv μ.1 idx As.length μ') (hcl : μ'.2.1.cls = "java/lang/String") (hM : ZM Γ d μ' (.ref (1000001 + i) :: As) M Q1)
    (hst : (st.map fun v => v.category).sum ≤ 8) (hfr : d + 1 ≤ R.frames) (hlo : 64 * (d + 1) ≤ R.locals) (hce : kc + μ'.2.2.2.2.2.1 ≤ R.cells) (hsl : ks + μ'.2.2.2.2.2.2 ≤ R.slots)
    (kk : ∀ (M1 : List zE) (v : Option Value), Q1 M1 v → M1.length = M.length + μ'.2.2.2.2.2.1 → Z Γ R μ Φ (kc + μ'.2.2.2.2.2.1) (ks + μ'.2.2.2.2.2.2) (pc + 3) ls (v.toList ++ st) M1) : Z Γ R μ Φ kc ks pc ls (As.reverse ++ .ref (1000001 + i) :: st) M := by
  intro p e s m args below meth c d0 H locs la hc hd0 hP hS hz hn hl
  exact z_callVr hd hL (z_spk hi hc.2.2.2.2.2.2.2.2).1 (fun s H locs hkb hP hS => by rw [hcl]; exact vk_recv hkb.2.2.2.1 hi hS) hM hst hfr hlo hce hsl kk p e s m args below meth c d0 H locs la hc hd0 hP hS hz hn hl
def zRaw (own : String) (idx : Nat) (y : MethodName) : Prop := Cond.methodLink own idx y ∈ zG ∧ Cond.native y ∈ zG ∧ Cond.static y ∈ zG ∧ Cond.initialized y.cls ∈ zG
theorem Z_f2i {idx : Nat} {b : UInt32} (hd : decode μ.2.2.1 pc = .ok (.invokestatic idx, 3)) (hw : zRaw μ.1 idx ⟨"java/lang/Float", "floatToRawIntBits", "(F)I"⟩) (hst : (st.map fun v => v.category).sum ≤ 8) (hfr : 1 ≤ R.frames) (hlo : 64 ≤ R.locals) (kk : Z Γ R μ Φ kc ks (pc + 3) ls (.int b.toInt32 :: st) M) : Z Γ R μ Φ kc ks pc ls (.float b :: st) M := by
  intro p e s m args below meth c d0 H locs la hc hd0 hP hS hz hn hl
  have k1 := kk p e s m args below meth c d0 H locs la hc hd0 hP hS hz hn hl
  obtain ⟨hx, hb, hrt, hml, hown, hts, hlk, hnm, hkb⟩ := hc
  obtain ⟨w1, w2, w3, w4⟩ := hw
  have h8 := z_rest hkb.2.2.2.2.2.2.2.2.2.2.2 hst
  exact vn_f2i (s := s.setDrawn d0) hx hb (hml.trans hl.1.symm) hown (dr_words hts d0 _ w1) (dr_words hts d0 _ w2) (dr_words hts d0 _ w3) (dr_words hts d0 _ w4) hfr (by omega) hd k1
theorem Z_d2l {idx : Nat} {b : UInt64} (hd : decode μ.2.2.1 pc = .ok (.invokestatic idx, 3)) (hw : zRaw μ.1 idx ⟨"java/lang/Double", "doubleToRawLongBits", "(D)J"⟩) (hst : (st.map fun v => v.category).sum ≤ 8) (hfr : 1 ≤ R.frames) (hlo : 64 ≤ R.locals) (kk : Z Γ R μ Φ kc ks (pc + 3) ls (.long b.toInt64 :: st) M) : Z Γ R μ Φ kc ks pc ls (.double b :: st) M := by
  intro p e s m args below meth c d0 H locs la hc hd0 hP hS hz hn hl
  have k1 := kk p e s m args below meth c d0 H locs la hc hd0 hP hS hz hn hl
  obtain ⟨hx, hb, hrt, hml, hown, hts, hlk, hnm, hkb⟩ := hc
  obtain ⟨w1, w2, w3, w4⟩ := hw
  have h8 := z_rest hkb.2.2.2.2.2.2.2.2.2.2.2 hst
  exact vn_d2l (s := s.setDrawn d0) hx hb (hml.trans hl.1.symm) hown (dr_words hts d0 _ w1) (dr_words hts d0 _ w2) (dr_words hts d0 _ w3) (dr_words hts d0 _ w4) hfr (by omega) hd k1
/-- a contract says less -/
theorem ZM.weaken {d : Nat} {args : List Value} {Q Q1 : List zE → Option Value → Prop} (h : ZM Γ d μ args M Q) (hq : ∀ M1 v, Q M1 v → Q1 M1 v) : ZM Γ d μ args M Q1 := by
  intro p e ha hc hk s m av below hf happ hP hK
  obtain ⟨n, o, h1, h2, h3, dd, h4, ⟨⟨v, M1, e1, e2, e3, e4, e5⟩, hF⟩, h6⟩ := h p e ha hc hk s m av below hf happ hP hK
  exact ⟨n, o, h1, h2, h3, dd, h4, ⟨⟨v, M1, e1, hq M1 v e2, e3, e4, e5⟩, hF⟩, h6⟩
end ZS
end
section
/-! rules over numbers that are not negative: an int nI a, a a natural number -/
theorem zn_le {a b : Nat} (ha : a < 2147483648) (hb : b < 2147483648) : nI a ≤ nI b ↔ a ≤ b := nI_leI ha hb
theorem zn_lt {a b : Nat} (ha : a < 2147483648) (hb : b < 2147483648) : nI a < nI b ↔ a < b := nI_ltI ha hb
theorem zn_eq {a b : Nat} (ha : a < 2147483648) (hb : b < 2147483648) : nI a = nI b ↔ a = b := nI_eq ha hb
theorem zn_cl {a : Nat} (ha : a < 2147483648) : (nI a).toNatClampNeg = a := nI_clamp ha
theorem zn_in {a n : Nat} (h : a < n) (hn : n < 2147483648) : vp_in (nI a) n := vp_in_nI h hn
section ZN
variable {Γ : zCtx} {R : Room} {μ : zMe} {Φ : zPhi} {kc ks pc : Nat} {ls ls' : List (Option Value)} {st : List Value} {M : List zE}
theorem Zn_iconst {n : Int} (v : Int32) (hd : decode μ.2.2.1 pc = .ok (.iconst n, 1)) (hv : Int32.ofInt n = v) (k : Z Γ R μ Φ kc ks (pc + 1) ls (.int v :: st) M) : Z Γ R μ Φ kc ks pc ls (st) M := by subst hv; exact Z_iconst hd k
theorem Zn_bipush {n : Int} (v : Int32) (hd : decode μ.2.2.1 pc = .ok (.bipush n, 2)) (hv : (Int8.ofInt n).toInt32 = v) (k : Z Γ R μ Φ kc ks (pc + 2) ls (.int v :: st) M) : Z Γ R μ Φ kc ks pc ls (st) M := by subst hv; exact Z_bipush hd k
theorem Zn_sipush {n : Int} (v : Int32) (hd : decode μ.2.2.1 pc = .ok (.sipush n, 3)) (hv : (Int16.ofInt n).toInt32 = v) (k : Z Γ R μ Φ kc ks (pc + 3) ls (.int v :: st) M) : Z Γ R μ Φ kc ks pc ls (st) M := by subst hv; exact Z_sipush hd k
theorem Zn_lconst {n : Fin 2} (v : Int64) (hd : decode μ.2.2.1 pc = .ok (.lconst n, 1)) (hv : Int64.ofNat (n : Nat) = v) (k : Z Γ R μ Φ kc ks (pc + 1) ls (.long v :: st) M) : Z Γ R μ Φ kc ks pc ls (st) M := by subst hv; exact Z_lconst hd k
theorem Zn_istore_n {i : Fin 4} {x : Int32} (ls' : List (Option Value)) (hd : decode μ.2.2.1 pc = .ok (.istore_n i, 1)) (hi : (i : Nat) < μ.2.2.2.1) (hls : zSt1 ls (i : Nat) (.int x) = ls') (k : Z Γ R μ Φ kc ks (pc + 1) ls' st M) : Z Γ R μ Φ kc ks pc ls (.int x :: st) M := by subst hls; exact Z_istore_n hd hi k
theorem Zn_istore {i : Nat} {x : Int32} (ls' : List (Option Value)) (hd : decode μ.2.2.1 pc = .ok (.istore i, 2)) (hi : i < μ.2.2.2.1) (hls : zSt1 ls i (.int x) = ls') (k : Z Γ R μ Φ kc ks (pc + 2) ls' st M) : Z Γ R μ Φ kc ks pc ls (.int x :: st) M := by subst hls; exact Z_istore hd hi k
theorem Zn_lstore_n {i : Fin 4} {x : Int64} (ls' : List (Option Value)) (hd : decode μ.2.2.1 pc = .ok (.lstore_n i, 1)) (hi : (i : Nat) + 1 < μ.2.2.2.1) (hls : zSt2 ls (i : Nat) (.long x) = ls') (k : Z Γ R μ Φ kc ks (pc + 1) ls' st M) : Z Γ R μ Φ kc ks pc ls (.long x :: st) M := by subst hls; exact Z_lstore_n hd hi k
theorem Zn_lstore {i : Nat} {x : Int64} (ls' : List (Option Value)) (hd : decode μ.2.2.1 pc = .ok (.lstore i, 2)) (hi : i + 1 < μ.2.2.2.1) (hls : zSt2 ls i (.long x) = ls') (k : Z Γ R μ Φ kc ks (pc + 2) ls' st M) : Z Γ R μ Φ kc ks pc ls (.long x :: st) M := by subst hls; exact Z_lstore hd hi k
theorem Zn_astore_n {i : Fin 4} {x : Nat} (ls' : List (Option Value)) (hd : decode μ.2.2.1 pc = .ok (.astore_n i, 1)) (hi : (i : Nat) < μ.2.2.2.1) (hls : zSt1 ls (i : Nat) (.ref x) = ls') (k : Z Γ R μ Φ kc ks (pc + 1) ls' st M) : Z Γ R μ Φ kc ks pc ls (.ref x :: st) M := by subst hls; exact Z_astore_n hd hi k
theorem Zn_astore {i : Nat} {x : Nat} (ls' : List (Option Value)) (hd : decode μ.2.2.1 pc = .ok (.astore i, 2)) (hi : i < μ.2.2.2.1) (hls : zSt1 ls i (.ref x) = ls') (k : Z Γ R μ Φ kc ks (pc + 2) ls' st M) : Z Γ R μ Φ kc ks pc ls (.ref x :: st) M := by subst hls; exact Z_astore hd hi k
theorem Zn_iinc {i : Nat} {n : Int} {x : Int32} (ls' : List (Option Value)) (v : Int32) (hd : decode μ.2.2.1 pc = .ok (.iinc i n, 3)) (h : ls[i]? = some (some (.int x))) (hi : i < μ.2.2.2.1) (hv : x + Int32.ofInt n = v) (hls : zSt1 ls i (.int v) = ls') (k : Z Γ R μ Φ kc ks (pc + 3) ls' st M) : Z Γ R μ Φ kc ks pc ls st M := by subst hls; subst hv; exact Z_iinc hd h hi k
theorem Zn_iadd {a b : Nat} (hd : decode μ.2.2.1 pc = .ok (.iadd, 1)) (k : Z Γ R μ Φ kc ks (pc + 1) ls (.int (nI (a + b)) :: st) M) : Z Γ R μ Φ kc ks pc ls (.int (nI b) :: .int (nI a) :: st) M := Z_iadd hd (by rw [nI_add]; exact k)
theorem Zn_isub {a b : Nat} (hd : decode μ.2.2.1 pc = .ok (.isub, 1)) (h : b ≤ a) (k : Z Γ R μ Φ kc ks (pc + 1) ls (.int (nI (a - b)) :: st) M) : Z Γ R μ Φ kc ks pc ls (.int (nI b) :: .int (nI a) :: st) M := Z_isub hd (by rw [pk_sub h]; exact k)
theorem Zn_imul {a b : Nat} (hd : decode μ.2.2.1 pc = .ok (.imul, 1)) (k : Z Γ R μ Φ kc ks (pc + 1) ls (.int (nI (a * b)) :: st) M) : Z Γ R μ Φ kc ks pc ls (.int (nI b) :: .int (nI a) :: st) M := Z_imul hd (by rw [pk_mul]; exact k)
theorem Zn_idiv {a b : Nat} (hd : decode μ.2.2.1 pc = .ok (.idiv, 1)) (ha : a < 2147483648) (hb : b < 2147483648) (h0 : 0 < b) (k : Z Γ R μ Φ kc ks (pc + 1) ls (.int (nI (a / b)) :: st) M) : Z Γ R μ Φ kc ks pc ls (.int (nI b) :: .int (nI a) :: st) M := Z_idiv hd (by intro h; have h2 := (zn_eq (a := b) (b := 0) hb (by omega)).mp h; omega) (by rw [pk_div ha h0 hb]; exact k)
theorem Zn_irem {a b : Nat} (hd : decode μ.2.2.1 pc = .ok (.irem, 1)) (ha : a < 2147483648) (hb : b < 2147483648) (h0 : 0 < b) (k : Z Γ R μ Φ kc ks (pc + 1) ls (.int (nI (a % b)) :: st) M) : Z Γ R μ Φ kc ks pc ls (.int (nI b) :: .int (nI a) :: st) M := Z_irem hd (by intro h; have h2 := (zn_eq (a := b) (b := 0) hb (by omega)).mp h; omega) (by rw [pk_rem ha h0 hb]; exact k)
theorem Zn_icmp_eq {a b : Nat} {off : Int} {tgt : Nat} (hd : decode μ.2.2.1 pc = .ok (.if_icmp .eq off, 3)) (ht : (pc : Int) + off = (tgt : Int)) (ha : a < 2147483648) (hb : b < 2147483648) (kt : a = b → Z Γ R μ Φ kc ks tgt ls st M) (kf : ¬ a = b → Z Γ R μ Φ kc ks (pc + 3) ls st M) : Z Γ R μ Φ kc ks pc ls (.int (nI b) :: .int (nI a) :: st) M := Z_icmp_eq hd ht (fun q => kt ((zn_eq ha hb).mp q)) (fun q => kf (fun z => q ((zn_eq ha hb).mpr z)))
theorem Zn_icmp_ne {a b : Nat} {off : Int} {tgt : Nat} (hd : decode μ.2.2.1 pc = .ok (.if_icmp .ne off, 3)) (ht : (pc : Int) + off = (tgt : Int)) (ha : a < 2147483648) (hb : b < 2147483648) (kt : ¬ a = b → Z Γ R μ Φ kc ks tgt ls st M) (kf : a = b → Z Γ R μ Φ kc ks (pc + 3) ls st M) : Z Γ R μ Φ kc ks pc ls (.int (nI b) :: .int (nI a) :: st) M := Z_icmp_ne hd ht (fun q => kt (fun z => q ((zn_eq ha hb).mpr z))) (fun q => kf ((zn_eq ha hb).mp q))
theorem Zn_icmp_lt {a b : Nat} {off : Int} {tgt : Nat} (hd : decode μ.2.2.1 pc = .ok (.if_icmp .lt off, 3)) (ht : (pc : Int) + off = (tgt : Int)) (ha : a < 2147483648) (hb : b < 2147483648) (kt : a < b → Z Γ R μ Φ kc ks tgt ls st M) (kf : ¬ a < b → Z Γ R μ Φ kc ks (pc + 3) ls st M) : Z Γ R μ Φ kc ks pc ls (.int (nI b) :: .int (nI a) :: st) M := Z_icmp_lt hd ht (fun q => kt ((zn_lt ha hb).mp q)) (fun q => kf (fun z => q ((zn_lt ha hb).mpr z)))
theorem Zn_icmp_ge {a b : Nat} {off : Int} {tgt : Nat} (hd : decode μ.2.2.1 pc = .ok (.if_icmp .ge off, 3)) (ht : (pc : Int) + off = (tgt : Int)) (ha : a < 2147483648) (hb : b < 2147483648) (kt : b ≤ a → Z Γ R μ Φ kc ks tgt ls st M) (kf : ¬ b ≤ a → Z Γ R μ Φ kc ks (pc + 3) ls st M) : Z Γ R μ Φ kc ks pc ls (.int (nI b) :: .int (nI a) :: st) M := Z_icmp_ge hd ht (fun q => kt ((zn_le hb ha).mp q)) (fun q => kf (fun z => q ((zn_le hb ha).mpr z)))
theorem Zn_icmp_gt {a b : Nat} {off : Int} {tgt : Nat} (hd : decode μ.2.2.1 pc = .ok (.if_icmp .gt off, 3)) (ht : (pc : Int) + off = (tgt : Int)) (ha : a < 2147483648) (hb : b < 2147483648) (kt : b < a → Z Γ R μ Φ kc ks tgt ls st M) (kf : ¬ b < a → Z Γ R μ Φ kc ks (pc + 3) ls st M) : Z Γ R μ Φ kc ks pc ls (.int (nI b) :: .int (nI a) :: st) M := Z_icmp_gt hd ht (fun q => kt ((zn_lt hb ha).mp q)) (fun q => kf (fun z => q ((zn_lt hb ha).mpr z)))
theorem Zn_icmp_le {a b : Nat} {off : Int} {tgt : Nat} (hd : decode μ.2.2.1 pc = .ok (.if_icmp .le off, 3)) (ht : (pc : Int) + off = (tgt : Int)) (ha : a < 2147483648) (hb : b < 2147483648) (kt : a ≤ b → Z Γ R μ Φ kc ks tgt ls st M) (kf : ¬ a ≤ b → Z Γ R μ Φ kc ks (pc + 3) ls st M) : Z Γ R μ Φ kc ks pc ls (.int (nI b) :: .int (nI a) :: st) M := Z_icmp_le hd ht (fun q => kt ((zn_le ha hb).mp q)) (fun q => kf (fun z => q ((zn_le ha hb).mpr z)))
theorem Zn_if_eq {a : Nat} {off : Int} {tgt : Nat} (hd : decode μ.2.2.1 pc = .ok (.ifCond .eq off, 3)) (ht : (pc : Int) + off = (tgt : Int)) (ha : a < 2147483648) (kt : a = 0 → Z Γ R μ Φ kc ks tgt ls st M) (kf : ¬ a = 0 → Z Γ R μ Φ kc ks (pc + 3) ls st M) : Z Γ R μ Φ kc ks pc ls (.int (nI a) :: st) M := Z_if_eq hd ht (fun q => kt ((zn_eq ha (by omega : (0 : Nat) < 2147483648)).mp q)) (fun q => kf (fun z => q ((zn_eq ha (by omega : (0 : Nat) < 2147483648)).mpr z)))
theorem Zn_if_ne {a : Nat} {off : Int} {tgt : Nat} (hd : decode μ.2.2.1 pc = .ok (.ifCond .ne off, 3)) (ht : (pc : Int) + off = (tgt : Int)) (ha : a < 2147483648) (kt : ¬ a = 0 → Z Γ R μ Φ kc ks tgt ls st M) (kf : a = 0 → Z Γ R μ Φ kc ks (pc + 3) ls st M) : Z Γ R μ Φ kc ks pc ls (.int (nI a) :: st) M := Z_if_ne hd ht (fun q => kt (fun z => q ((zn_eq ha (by omega : (0 : Nat) < 2147483648)).mpr z))) (fun q => kf ((zn_eq ha (by omega : (0 : Nat) < 2147483648)).mp q))
theorem Zn_if_lt {a : Nat} {off : Int} {tgt : Nat} (hd : decode μ.2.2.1 pc = .ok (.ifCond .lt off, 3)) (ht : (pc : Int) + off = (tgt : Int)) (ha : a < 2147483648) (kf : Z Γ R μ Φ kc ks (pc + 3) ls st M) : Z Γ R μ Φ kc ks pc ls (.int (nI a) :: st) M := Z_if_lt hd ht (fun q => absurd q (nI_pos ha)) (fun _ => kf)
theorem Zn_if_ge {a : Nat} {off : Int} {tgt : Nat} (hd : decode μ.2.2.1 pc = .ok (.ifCond .ge off, 3)) (ht : (pc : Int) + off = (tgt : Int)) (ha : a < 2147483648) (kt : Z Γ R μ Φ kc ks tgt ls st M) : Z Γ R μ Φ kc ks pc ls (.int (nI a) :: st) M := Z_if_ge hd ht (fun _ => kt) (fun q => absurd (nI_pos' ha) q)
theorem Zn_if_le {a : Nat} {off : Int} {tgt : Nat} (hd : decode μ.2.2.1 pc = .ok (.ifCond .le off, 3)) (ht : (pc : Int) + off = (tgt : Int)) (ha : a < 2147483648) (kt : a = 0 → Z Γ R μ Φ kc ks tgt ls st M) (kf : 0 < a → Z Γ R μ Φ kc ks (pc + 3) ls st M) : Z Γ R μ Φ kc ks pc ls (.int (nI a) :: st) M := Z_if_le hd ht (fun q => kt (Nat.le_zero.mp ((zn_le (b := 0) ha (by omega)).mp q))) (fun q => kf (Nat.pos_of_ne_zero (fun z => q (by rw [z]; exact Int32.le_refl _))))
theorem Zn_if_gt {a : Nat} {off : Int} {tgt : Nat} (hd : decode μ.2.2.1 pc = .ok (.ifCond .gt off, 3)) (ht : (pc : Int) + off = (tgt : Int)) (ha : a < 2147483648) (kt : 0 < a → Z Γ R μ Φ kc ks tgt ls st M) (kf : a = 0 → Z Γ R μ Φ kc ks (pc + 3) ls st M) : Z Γ R μ Φ kc ks pc ls (.int (nI a) :: st) M := Z_if_gt hd ht (fun q => kt ((zn_lt (a := 0) (by omega) ha).mp q)) (fun q => kf (Nat.eq_zero_of_not_pos (fun z => q ((zn_lt (a := 0) (by omega) ha).mpr z))))
theorem Zn_iald {k n j : Nat} {f : Nat → Int32} (hd : decode μ.2.2.1 pc = .ok (.iaload, 1)) (hM : M[k]? = some (.inl (0, n, .inl f))) (hj : j < n) (hn : n < 2147483648) (kk : Z Γ R μ Φ kc ks (pc + 1) ls (.int (f j) :: st) M) : Z Γ R μ Φ kc ks pc ls (.int (nI j) :: .ref k :: st) M := Z_iald hd hM (zn_in hj hn) (by rw [zn_cl (Nat.lt_trans hj hn)]; exact kk)
theorem Zn_lald {k n j : Nat} {f : Nat → Int64} (hd : decode μ.2.2.1 pc = .ok (.laload, 1)) (hM : M[k]? = some (.inl (1, n, .inr (.inl f)))) (hj : j < n) (hn : n < 2147483648) (kk : Z Γ R μ Φ kc ks (pc + 1) ls (.long (f j) :: st) M) : Z Γ R μ Φ kc ks pc ls (.int (nI j) :: .ref k :: st) M := Z_lald hd hM (zn_in hj hn) (by rw [zn_cl (Nat.lt_trans hj hn)]; exact kk)
theorem Zn_zald {k n j : Nat} {f : Nat → Int32} (hd : decode μ.2.2.1 pc = .ok (.baload, 1)) (hM : M[k]? = some (.inl (2, n, .inl f))) (hj : j < n) (hn : n < 2147483648) (kk : Z Γ R μ Φ kc ks (pc + 1) ls (.int (f j) :: st) M) : Z Γ R μ Φ kc ks pc ls (.int (nI j) :: .ref k :: st) M := Z_zald hd hM (zn_in hj hn) (by rw [zn_cl (Nat.lt_trans hj hn)]; exact kk)
theorem Zn_aald {k n j r : Nat} {f : Nat → Option Nat} (hd : decode μ.2.2.1 pc = .ok (.aaload, 1)) (hM : M[k]? = some (.inl (3, n, .inr (.inr (.inr (.inr f)))))) (hj : j < n) (hn : n < 2147483648) (hr : f j = some r) (hr2 : r < 1000000) (kk : Z Γ R μ Φ kc ks (pc + 1) ls (.ref r :: st) M) : Z Γ R μ Φ kc ks pc ls (.int (nI j) :: .ref k :: st) M := Z_aald hd hM (zn_in hj hn) (by rw [zn_cl (Nat.lt_trans hj hn)]; exact hr) hr2 kk
theorem Zn_iast {k n j : Nat} {f : Nat → Int32} {x : Int32} (hd : decode μ.2.2.1 pc = .ok (.iastore, 1)) (hM : M[k]? = some (.inl (0, n, .inl f))) (hj : j < n) (hn : n < 2147483648) (kk : Z Γ R μ Φ kc ks (pc + 1) ls st (M.set k (.inl (0, n, .inl (upd f j x))))) : Z Γ R μ Φ kc ks pc ls (.int x :: .int (nI j) :: .ref k :: st) M := Z_iast hd hM (zn_in hj hn) (by rw [zn_cl (Nat.lt_trans hj hn)]; exact kk)
theorem Zn_last {k n j : Nat} {f : Nat → Int64} {x : Int64} (hd : decode μ.2.2.1 pc = .ok (.lastore, 1)) (hM : M[k]? = some (.inl (1, n, .inr (.inl f)))) (hj : j < n) (hn : n < 2147483648) (kk : Z Γ R μ Φ kc ks (pc + 1) ls st (M.set k (.inl (1, n, .inr (.inl (vp_updL f j x)))))) : Z Γ R μ Φ kc ks pc ls (.long x :: .int (nI j) :: .ref k :: st) M := Z_last hd hM (zn_in hj hn) (by rw [zn_cl (Nat.lt_trans hj hn)]; exact kk)
theorem Zn_zast {k n j : Nat} {f : Nat → Int32} {x : Int32} (hd : decode μ.2.2.1 pc = .ok (.bastore, 1)) (hM : M[k]? = some (.inl (2, n, .inl f))) (hj : j < n) (hn : n < 2147483648) (hx : x = 0 ∨ x = 1) (kk : Z Γ R μ Φ kc ks (pc + 1) ls st (M.set k (.inl (2, n, .inl (upd f j x))))) : Z Γ R μ Φ kc ks pc ls (.int x :: .int (nI j) :: .ref k :: st) M := Z_zast hd hM (zn_in hj hn) hx (by rw [zn_cl (Nat.lt_trans hj hn)]; exact kk)
theorem st_eq {M : List zE} {k : Nat} {c c' : zE} (h : M[k]? = some c) : (M.set k c')[k]? = some c' := by
  rw [List.getElem?_set_self (z_lt h)]
theorem st_ne {M : List zE} {k j : Nat} {c' : zE} (h : k ≠ j) : (M.set k c')[j]? = M[j]? := List.getElem?_set_ne h
end ZN
end
section
/-! methods -/
theorem zG_list {ws : List Cond} (is : List Nat) (h : ws = is.filterMap (fun i => tables_1[i]?)) (hg : ws.all goodWord = true) : ∀ w ∈ ws, w ∈ zG := by
  intro w hw
  have h1 := List.all_eq_true.mp hg w hw
  rw [h] at hw
  obtain ⟨i, -, hi⟩ := List.mem_filterMap.mp hw
  exact zG_of i hi h1
abbrev m_sc_init : zMe := ("StatuteConsolidator", ⟨"StatuteConsolidator", "<init>", "()V"⟩, prog_1_method_1_code, 1, none, 122, 3497)
theorem mk_sc_init : zMk m_sc_init := ⟨zG_of 22 (by decide +kernel) rfl, zG_of 1 (by decide +kernel) rfl, by decide +kernel, ⟨by decide +kernel, by decide +kernel⟩, rfl, by decide⟩
abbrev m_sta_init : zMe := ("StatuteConsolidator$Statute", ⟨"StatuteConsolidator$Statute", "<init>", "()V"⟩, prog_7_method_1_code, 1, none, 45, 989)
theorem mk_sta_init : zMk m_sta_init := ⟨zG_of 30 (by decide +kernel) rfl, zG_of 2 (by decide +kernel) rfl, by decide +kernel, ⟨by decide +kernel, by decide +kernel⟩, rfl, by decide⟩
abbrev m_pv_init : zMe := ("StatuteConsolidator$Provisions", ⟨"StatuteConsolidator$Provisions", "<init>", "()V"⟩, prog_5_method_1_code, 1, none, 5, 300)
theorem mk_pv_init : zMk m_pv_init := ⟨zG_of 36 (by decide +kernel) rfl, zG_of 3 (by decide +kernel) rfl, by decide +kernel, ⟨by decide +kernel, by decide +kernel⟩, rfl, by decide⟩
abbrev m_am_init : zMe := ("StatuteConsolidator$Amendments", ⟨"StatuteConsolidator$Amendments", "<init>", "()V"⟩, prog_2_method_1_code, 1, none, 6, 496)
theorem mk_am_init : zMk m_am_init := ⟨zG_of 77 (by decide +kernel) rfl, zG_of 4 (by decide +kernel) rfl, by decide +kernel, ⟨by decide +kernel, by decide +kernel⟩, rfl, by decide⟩
abbrev m_inp_init : zMe := ("StatuteConsolidator$Input", ⟨"StatuteConsolidator$Input", "<init>", "()V"⟩, prog_3_method_1_code, 1, none, 1, 120)
theorem mk_inp_init : zMk m_inp_init := ⟨zG_of 137 (by decide +kernel) rfl, zG_of 5 (by decide +kernel) rfl, by decide +kernel, ⟨by decide +kernel, by decide +kernel⟩, rfl, by decide⟩
abbrev m_sh_init : zMe := ("StatuteConsolidator$Shelves", ⟨"StatuteConsolidator$Shelves", "<init>", "()V"⟩, prog_6_method_1_code, 1, none, 7, 42)
theorem mk_sh_init : zMk m_sh_init := ⟨zG_of 156 (by decide +kernel) rfl, zG_of 6 (by decide +kernel) rfl, by decide +kernel, ⟨by decide +kernel, by decide +kernel⟩, rfl, by decide⟩
abbrev m_ver_init : zMe := ("StatuteConsolidator$Version", ⟨"StatuteConsolidator$Version", "<init>", "()V"⟩, prog_8_method_1_code, 1, none, 9, 666)
theorem mk_ver_init : zMk m_ver_init := ⟨zG_of 180 (by decide +kernel) rfl, zG_of 7 (by decide +kernel) rfl, by decide +kernel, ⟨by decide +kernel, by decide +kernel⟩, rfl, by decide⟩
abbrev m_sc_addProvision : zMe := ("StatuteConsolidator", ⟨"StatuteConsolidator", "addProvision", "(II)I"⟩, prog_1_method_2_code, 6, (some (.int : FieldType)), 0, 0)
theorem mk_sc_addProvision : zMk m_sc_addProvision := ⟨zG_of 230 (by decide +kernel) rfl, zG_of 1 (by decide +kernel) rfl, by decide +kernel, ⟨by decide +kernel, by decide +kernel⟩, rfl, by decide⟩
abbrev m_sta_hasProvision : zMe := ("StatuteConsolidator$Statute", ⟨"StatuteConsolidator$Statute", "hasProvision", "(I)Z"⟩, prog_7_method_3_code, 2, (some (.boolean : FieldType)), 0, 0)
theorem mk_sta_hasProvision : zMk m_sta_hasProvision := ⟨zG_of 234 (by decide +kernel) rfl, zG_of 2 (by decide +kernel) rfl, by decide +kernel, ⟨by decide +kernel, by decide +kernel⟩, rfl, by decide⟩
abbrev m_sc_isText : zMe := ("StatuteConsolidator", ⟨"StatuteConsolidator", "isText", "(I)Z"⟩, prog_1_method_41_code, 1, (some (.boolean : FieldType)), 0, 0)
theorem mk_sc_isText : zMk m_sc_isText := ⟨zG_of 237 (by decide +kernel) rfl, zG_of 1 (by decide +kernel) rfl, by decide +kernel, ⟨by decide +kernel, by decide +kernel⟩, rfl, by decide⟩
abbrev m_sta_pathOf : zMe := ("StatuteConsolidator$Statute", ⟨"StatuteConsolidator$Statute", "pathOf", "(I)J"⟩, prog_7_method_4_code, 3, (some (.long : FieldType)), 0, 0)
theorem mk_sta_pathOf : zMk m_sta_pathOf := ⟨zG_of 241 (by decide +kernel) rfl, zG_of 2 (by decide +kernel) rfl, by decide +kernel, ⟨by decide +kernel, by decide +kernel⟩, rfl, by decide⟩
abbrev m_pv_positionOfOrigin : zMe := ("StatuteConsolidator$Provisions", ⟨"StatuteConsolidator$Provisions", "positionOfOrigin", "(I)I"⟩, prog_5_method_5_code, 3, (some (.int : FieldType)), 0, 0)
theorem mk_pv_positionOfOrigin : zMk m_pv_positionOfOrigin := ⟨zG_of 245 (by decide +kernel) rfl, zG_of 3 (by decide +kernel) rfl, by decide +kernel, ⟨by decide +kernel, by decide +kernel⟩, rfl, by decide⟩
abbrev m_pa_levelOf : zMe := ("StatuteConsolidator$Paths", ⟨"StatuteConsolidator$Paths", "levelOf", "(J)I"⟩, prog_4_method_7_code, 2, (some (.int : FieldType)), 0, 0)
theorem mk_pa_levelOf : zMk m_pa_levelOf := ⟨zG_of 248 (by decide +kernel) rfl, zG_of 9 (by decide +kernel) rfl, by decide +kernel, ⟨by decide +kernel, by decide +kernel⟩, rfl, by decide⟩
abbrev m_pv_labelOfNewLastChild : zMe := ("StatuteConsolidator$Provisions", ⟨"StatuteConsolidator$Provisions", "labelOfNewLastChild", "(J)I"⟩, prog_5_method_7_code, 6, (some (.int : FieldType)), 0, 0)
theorem mk_pv_labelOfNewLastChild : zMk m_pv_labelOfNewLastChild := ⟨zG_of 254 (by decide +kernel) rfl, zG_of 3 (by decide +kernel) rfl, by decide +kernel, ⟨by decide +kernel, by decide +kernel⟩, rfl, by decide⟩
abbrev m_pa_parentOf : zMe := ("StatuteConsolidator$Paths", ⟨"StatuteConsolidator$Paths", "parentOf", "(J)J"⟩, prog_4_method_12_code, 2, (some (.long : FieldType)), 0, 0)
theorem mk_pa_parentOf : zMk m_pa_parentOf := ⟨zG_of 258 (by decide +kernel) rfl, zG_of 9 (by decide +kernel) rfl, by decide +kernel, ⟨by decide +kernel, by decide +kernel⟩, rfl, by decide⟩
abbrev m_pa_labelAt : zMe := ("StatuteConsolidator$Paths", ⟨"StatuteConsolidator$Paths", "labelAt", "(JI)I"⟩, prog_4_method_8_code, 3, (some (.int : FieldType)), 0, 0)
theorem mk_pa_labelAt : zMk m_pa_labelAt := ⟨zG_of 263 (by decide +kernel) rfl, zG_of 9 (by decide +kernel) rfl, by decide +kernel, ⟨by decide +kernel, by decide +kernel⟩, rfl, by decide⟩
abbrev m_pa_numberOf : zMe := ("StatuteConsolidator$Paths", ⟨"StatuteConsolidator$Paths", "numberOf", "(I)I"⟩, prog_4_method_3_code, 1, (some (.int : FieldType)), 0, 0)
theorem mk_pa_numberOf : zMk m_pa_numberOf := ⟨zG_of 266 (by decide +kernel) rfl, zG_of 9 (by decide +kernel) rfl, by decide +kernel, ⟨by decide +kernel, by decide +kernel⟩, rfl, by decide⟩
abbrev m_pa_labelOfNumber : zMe := ("StatuteConsolidator$Paths", ⟨"StatuteConsolidator$Paths", "labelOfNumber", "(I)I"⟩, prog_4_method_2_code, 1, (some (.int : FieldType)), 0, 0)
theorem mk_pa_labelOfNumber : zMk m_pa_labelOfNumber := ⟨zG_of 272 (by decide +kernel) rfl, zG_of 9 (by decide +kernel) rfl, by decide +kernel, ⟨by decide +kernel, by decide +kernel⟩, rfl, by decide⟩
abbrev m_pa_childOf : zMe := ("StatuteConsolidator$Paths", ⟨"StatuteConsolidator$Paths", "childOf", "(JI)J"⟩, prog_4_method_10_code, 3, (some (.long : FieldType)), 0, 0)
theorem mk_pa_childOf : zMk m_pa_childOf := ⟨zG_of 275 (by decide +kernel) rfl, zG_of 9 (by decide +kernel) rfl, by decide +kernel, ⟨by decide +kernel, by decide +kernel⟩, rfl, by decide⟩
abbrev m_pa_withLabel : zMe := ("StatuteConsolidator$Paths", ⟨"StatuteConsolidator$Paths", "withLabel", "(JII)J"⟩, prog_4_method_9_code, 5, (some (.long : FieldType)), 0, 0)
theorem mk_pa_withLabel : zMk m_pa_withLabel := ⟨zG_of 279 (by decide +kernel) rfl, zG_of 9 (by decide +kernel) rfl, by decide +kernel, ⟨by decide +kernel, by decide +kernel⟩, rfl, by decide⟩
abbrev m_sta_createProvision : zMe := ("StatuteConsolidator$Statute", ⟨"StatuteConsolidator$Statute", "createProvision", "(JI)I"⟩, prog_7_method_6_code, 5, (some (.int : FieldType)), 0, 0)
theorem mk_sta_createProvision : zMk m_sta_createProvision := ⟨zG_of 284 (by decide +kernel) rfl, zG_of 2 (by decide +kernel) rfl, by decide +kernel, ⟨by decide +kernel, by decide +kernel⟩, rfl, by decide⟩
abbrev m_pv_append : zMe := ("StatuteConsolidator$Provisions", ⟨"StatuteConsolidator$Provisions", "append", "(JIII)V"⟩, prog_5_method_9_code, 6, none, 0, 0)
theorem mk_pv_append : zMk m_pv_append := ⟨zG_of 288 (by decide +kernel) rfl, zG_of 3 (by decide +kernel) rfl, by decide +kernel, ⟨by decide +kernel, by decide +kernel⟩, rfl, by decide⟩
abbrev m_pv_restoreOrder : zMe := ("StatuteConsolidator$Provisions", ⟨"StatuteConsolidator$Provisions", "restoreOrder", "()V"⟩, prog_5_method_13_code, 3, none, 0, 0)
theorem mk_pv_restoreOrder : zMk m_pv_restoreOrder := ⟨zG_of 292 (by decide +kernel) rfl, zG_of 3 (by decide +kernel) rfl, by decide +kernel, ⟨by decide +kernel, by decide +kernel⟩, rfl, by decide⟩
abbrev m_pv_swap : zMe := ("StatuteConsolidator$Provisions", ⟨"StatuteConsolidator$Provisions", "swap", "(II)V"⟩, prog_5_method_14_code, 9, none, 0, 0)
theorem mk_pv_swap : zMk m_pv_swap := ⟨zG_of 296 (by decide +kernel) rfl, zG_of 3 (by decide +kernel) rfl, by decide +kernel, ⟨by decide +kernel, by decide +kernel⟩, rfl, by decide⟩
abbrev m_sc_insertProvision : zMe := ("StatuteConsolidator", ⟨"StatuteConsolidator", "insertProvision", "(II)I"⟩, prog_1_method_3_code, 6, (some (.int : FieldType)), 0, 0)
theorem mk_sc_insertProvision : zMk m_sc_insertProvision := ⟨zG_of 300 (by decide +kernel) rfl, zG_of 1 (by decide +kernel) rfl, by decide +kernel, ⟨by decide +kernel, by decide +kernel⟩, rfl, by decide⟩
abbrev m_pv_labelAfter : zMe := ("StatuteConsolidator$Provisions", ⟨"StatuteConsolidator$Provisions", "labelAfter", "(JJ)I"⟩, prog_5_method_8_code, 13, (some (.int : FieldType)), 0, 0)
theorem mk_pv_labelAfter : zMk m_pv_labelAfter := ⟨zG_of 304 (by decide +kernel) rfl, zG_of 3 (by decide +kernel) rfl, by decide +kernel, ⟨by decide +kernel, by decide +kernel⟩, rfl, by decide⟩
abbrev m_pa_labelBetween : zMe := ("StatuteConsolidator$Paths", ⟨"StatuteConsolidator$Paths", "labelBetween", "(II)I"⟩, prog_4_method_6_code, 4, (some (.int : FieldType)), 0, 0)
theorem mk_pa_labelBetween : zMk m_pa_labelBetween := ⟨zG_of 310 (by decide +kernel) rfl, zG_of 9 (by decide +kernel) rfl, by decide +kernel, ⟨by decide +kernel, by decide +kernel⟩, rfl, by decide⟩
abbrev m_pa_siblingOf : zMe := ("StatuteConsolidator$Paths", ⟨"StatuteConsolidator$Paths", "siblingOf", "(JI)J"⟩, prog_4_method_11_code, 3, (some (.long : FieldType)), 0, 0)
theorem mk_pa_siblingOf : zMk m_pa_siblingOf := ⟨zG_of 313 (by decide +kernel) rfl, zG_of 9 (by decide +kernel) rfl, by decide +kernel, ⟨by decide +kernel, by decide +kernel⟩, rfl, by decide⟩
abbrev m_sc_setText : zMe := ("StatuteConsolidator", ⟨"StatuteConsolidator", "setText", "(II)I"⟩, prog_1_method_4_code, 5, (some (.int : FieldType)), 0, 0)
theorem mk_sc_setText : zMk m_sc_setText := ⟨zG_of 317 (by decide +kernel) rfl, zG_of 1 (by decide +kernel) rfl, by decide +kernel, ⟨by decide +kernel, by decide +kernel⟩, rfl, by decide⟩
abbrev m_sc_addReference : zMe := ("StatuteConsolidator", ⟨"StatuteConsolidator", "addReference", "(II)I"⟩, prog_1_method_5_code, 3, (some (.int : FieldType)), 0, 0)
theorem mk_sc_addReference : zMk m_sc_addReference := ⟨zG_of 322 (by decide +kernel) rfl, zG_of 1 (by decide +kernel) rfl, by decide +kernel, ⟨by decide +kernel, by decide +kernel⟩, rfl, by decide⟩
abbrev m_sc_clear : zMe := ("StatuteConsolidator", ⟨"StatuteConsolidator", "clear", "()I"⟩, prog_1_method_6_code, 2, (some (.int : FieldType)), 0, 0)
theorem mk_sc_clear : zMk m_sc_clear := ⟨zG_of 326 (by decide +kernel) rfl, zG_of 1 (by decide +kernel) rfl, by decide +kernel, ⟨by decide +kernel, by decide +kernel⟩, rfl, by decide⟩
abbrev m_sh_emptyAll : zMe := ("StatuteConsolidator$Shelves", ⟨"StatuteConsolidator$Shelves", "emptyAll", "()V"⟩, prog_6_method_2_code, 2, none, 0, 0)
theorem mk_sh_emptyAll : zMk m_sh_emptyAll := ⟨zG_of 330 (by decide +kernel) rfl, zG_of 6 (by decide +kernel) rfl, by decide +kernel, ⟨by decide +kernel, by decide +kernel⟩, rfl, by decide⟩
abbrev m_sc_originalCount : zMe := ("StatuteConsolidator", ⟨"StatuteConsolidator", "originalCount", "()I"⟩, prog_1_method_7_code, 1, (some (.int : FieldType)), 0, 0)
theorem mk_sc_originalCount : zMk m_sc_originalCount := ⟨zG_of 334 (by decide +kernel) rfl, zG_of 1 (by decide +kernel) rfl, by decide +kernel, ⟨by decide +kernel, by decide +kernel⟩, rfl, by decide⟩
abbrev m_sc_appendCharacter : zMe := ("StatuteConsolidator", ⟨"StatuteConsolidator", "appendCharacter", "(I)I"⟩, prog_1_method_8_code, 2, (some (.int : FieldType)), 0, 0)
theorem mk_sc_appendCharacter : zMk m_sc_appendCharacter := ⟨zG_of 338 (by decide +kernel) rfl, zG_of 1 (by decide +kernel) rfl, by decide +kernel, ⟨by decide +kernel, by decide +kernel⟩, rfl, by decide⟩
abbrev m_sc_clearInput : zMe := ("StatuteConsolidator", ⟨"StatuteConsolidator", "clearInput", "()I"⟩, prog_1_method_9_code, 2, (some (.int : FieldType)), 0, 0)
theorem mk_sc_clearInput : zMk m_sc_clearInput := ⟨zG_of 342 (by decide +kernel) rfl, zG_of 1 (by decide +kernel) rfl, by decide +kernel, ⟨by decide +kernel, by decide +kernel⟩, rfl, by decide⟩
abbrev m_sc_addAmendment : zMe := ("StatuteConsolidator", ⟨"StatuteConsolidator", "addAmendment", "(I)I"⟩, prog_1_method_10_code, 3, (some (.int : FieldType)), 0, 0)
theorem mk_sc_addAmendment : zMk m_sc_addAmendment := ⟨zG_of 346 (by decide +kernel) rfl, zG_of 1 (by decide +kernel) rfl, by decide +kernel, ⟨by decide +kernel, by decide +kernel⟩, rfl, by decide⟩
abbrev m_sc_storeAmendment : zMe := ("StatuteConsolidator", ⟨"StatuteConsolidator", "storeAmendment", "(I)I"⟩, prog_1_method_44_code, 5, (some (.int : FieldType)), 0, 0)
theorem mk_sc_storeAmendment : zMk m_sc_storeAmendment := ⟨zG_of 350 (by decide +kernel) rfl, zG_of 1 (by decide +kernel) rfl, by decide +kernel, ⟨by decide +kernel, by decide +kernel⟩, rfl, by decide⟩
abbrev m_sc_isCommencementDay : zMe := ("StatuteConsolidator", ⟨"StatuteConsolidator", "isCommencementDay", "(I)Z"⟩, prog_1_method_42_code, 1, (some (.boolean : FieldType)), 0, 0)
theorem mk_sc_isCommencementDay : zMk m_sc_isCommencementDay := ⟨zG_of 353 (by decide +kernel) rfl, zG_of 1 (by decide +kernel) rfl, by decide +kernel, ⟨by decide +kernel, by decide +kernel⟩, rfl, by decide⟩
abbrev m_inp_readInstructions : zMe := ("StatuteConsolidator$Input", ⟨"StatuteConsolidator$Input", "readInstructions", "(LStatuteConsolidator$Amendments;I)I"⟩, prog_3_method_2_code, 4, (some (.int : FieldType)), 0, 0)
theorem mk_inp_readInstructions : zMk m_inp_readInstructions := ⟨zG_of 357 (by decide +kernel) rfl, zG_of 5 (by decide +kernel) rfl, by decide +kernel, ⟨by decide +kernel, by decide +kernel⟩, rfl, by decide⟩
abbrev m_inp_readInstruction : zMe := ("StatuteConsolidator$Input", ⟨"StatuteConsolidator$Input", "readInstruction", "(LStatuteConsolidator$Amendments;I)Z"⟩, prog_3_method_3_code, 6, (some (.boolean : FieldType)), 0, 0)
theorem mk_inp_readInstruction : zMk m_inp_readInstruction := ⟨zG_of 361 (by decide +kernel) rfl, zG_of 5 (by decide +kernel) rfl, by decide +kernel, ⟨by decide +kernel, by decide +kernel⟩, rfl, by decide⟩
abbrev m_inp_readKind : zMe := ("StatuteConsolidator$Input", ⟨"StatuteConsolidator$Input", "readKind", "()I"⟩, prog_3_method_8_code, 5, (some (.int : FieldType)), 0, 0)
theorem mk_inp_readKind : zMk m_inp_readKind := ⟨zG_of 365 (by decide +kernel) rfl, zG_of 5 (by decide +kernel) rfl, by decide +kernel, ⟨by decide +kernel, by decide +kernel⟩, rfl, by decide⟩
abbrev m_inp_wordOf : zMe := ("StatuteConsolidator$Input", ⟨"StatuteConsolidator$Input", "wordOf", "(I)Ljava/lang/String;"⟩, prog_3_method_9_code, 1, (some ((.object "java/lang/String") : FieldType)), 0, 0)
theorem mk_inp_wordOf : zMk m_inp_wordOf := ⟨zG_of 368 (by decide +kernel) rfl, zG_of 5 (by decide +kernel) rfl, by decide +kernel, ⟨by decide +kernel, by decide +kernel⟩, rfl, by decide⟩
abbrev m_inp_matchingLength : zMe := ("StatuteConsolidator$Input", ⟨"StatuteConsolidator$Input", "matchingLength", "(Ljava/lang/String;)I"⟩, prog_3_method_10_code, 4, (some (.int : FieldType)), 0, 0)
theorem mk_inp_matchingLength : zMk m_inp_matchingLength := ⟨zG_of 378 (by decide +kernel) rfl, zG_of 5 (by decide +kernel) rfl, by decide +kernel, ⟨by decide +kernel, by decide +kernel⟩, rfl, by decide⟩
abbrev m_js_length : zMe := ("java/lang/String", ⟨"java/lang/String", "length", "()I"⟩, prog_14_method_54_code, 1, (some (.int : FieldType)), 0, 0)
theorem mk_js_length : zMk m_js_length := ⟨zG_of 382 (by decide +kernel) rfl, zG_of 11 (by decide +kernel) rfl, by decide +kernel, ⟨by decide +kernel, by decide +kernel⟩, rfl, by decide⟩
abbrev m_js_coder : zMe := ("java/lang/String", ⟨"java/lang/String", "coder", "()B"⟩, prog_14_method_152_code, 1, (some (.byte : FieldType)), 0, 0)
theorem mk_js_coder : zMk m_js_coder := ⟨zG_of 386 (by decide +kernel) rfl, zG_of 11 (by decide +kernel) rfl, by decide +kernel, ⟨by decide +kernel, by decide +kernel⟩, rfl, by decide⟩
abbrev m_js_charAt : zMe := ("java/lang/String", ⟨"java/lang/String", "charAt", "(I)C"⟩, prog_14_method_56_code, 2, (some (.char : FieldType)), 0, 0)
theorem mk_js_charAt : zMk m_js_charAt := ⟨zG_of 393 (by decide +kernel) rfl, zG_of 11 (by decide +kernel) rfl, by decide +kernel, ⟨by decide +kernel, by decide +kernel⟩, rfl, by decide⟩
abbrev m_js_isLatin1 : zMe := ("java/lang/String", ⟨"java/lang/String", "isLatin1", "()Z"⟩, prog_14_method_154_code, 1, (some (.boolean : FieldType)), 0, 0)
theorem mk_js_isLatin1 : zMk m_js_isLatin1 := ⟨zG_of 397 (by decide +kernel) rfl, zG_of 11 (by decide +kernel) rfl, by decide +kernel, ⟨by decide +kernel, by decide +kernel⟩, rfl, by decide⟩
abbrev m_jl_charAt : zMe := ("java/lang/StringLatin1", ⟨"java/lang/StringLatin1", "charAt", "([BI)C"⟩, prog_15_method_2_code, 2, (some (.char : FieldType)), 0, 0)
theorem mk_jl_charAt : zMk m_jl_charAt := ⟨zG_of 400 (by decide +kernel) rfl, zG_of 12 (by decide +kernel) rfl, by decide +kernel, ⟨by decide +kernel, by decide +kernel⟩, rfl, by decide⟩
abbrev m_js_checkIndex : zMe := ("java/lang/String", ⟨"java/lang/String", "checkIndex", "(II)V"⟩, prog_14_method_155_code, 2, none, 0, 0)
theorem mk_js_checkIndex : zMk m_js_checkIndex := ⟨zG_of 403 (by decide +kernel) rfl, zG_of 11 (by decide +kernel) rfl, by decide +kernel, ⟨by decide +kernel, by decide +kernel⟩, rfl, by decide⟩
abbrev m_jp_checkIndex : zMe := ("jdk/internal/util/Preconditions", ⟨"jdk/internal/util/Preconditions", "checkIndex", "(IILjava/util/function/BiFunction;)I"⟩, prog_18_method_11_code, 3, (some (.int : FieldType)), 0, 0)
theorem mk_jp_checkIndex : zMk m_jp_checkIndex := ⟨zG_of 408 (by decide +kernel) rfl, zG_of 13 (by decide +kernel) rfl, by decide +kernel, ⟨by decide +kernel, by decide +kernel⟩, rfl, by decide⟩
abbrev m_ju_charAt : zMe := ("java/lang/StringUTF16", ⟨"java/lang/StringUTF16", "charAt", "([BI)C"⟩, prog_16_method_83_code, 2, (some (.char : FieldType)), 0, 0)
theorem mk_ju_charAt : zMk m_ju_charAt := ⟨zG_of 411 (by decide +kernel) rfl, zG_of 14 (by decide +kernel) rfl, by decide +kernel, ⟨by decide +kernel, by decide +kernel⟩, rfl, by decide⟩
abbrev m_ju_checkIndex : zMe := ("java/lang/StringUTF16", ⟨"java/lang/StringUTF16", "checkIndex", "(I[B)V"⟩, prog_16_method_91_code, 2, none, 0, 0)
theorem mk_ju_checkIndex : zMk m_ju_checkIndex := ⟨zG_of 414 (by decide +kernel) rfl, zG_of 14 (by decide +kernel) rfl, by decide +kernel, ⟨by decide +kernel, by decide +kernel⟩, rfl, by decide⟩
abbrev m_ju_length : zMe := ("java/lang/StringUTF16", ⟨"java/lang/StringUTF16", "length", "([B)I"⟩, prog_16_method_6_code, 1, (some (.int : FieldType)), 0, 0)
theorem mk_ju_length : zMk m_ju_length := ⟨zG_of 417 (by decide +kernel) rfl, zG_of 14 (by decide +kernel) rfl, by decide +kernel, ⟨by decide +kernel, by decide +kernel⟩, rfl, by decide⟩
abbrev m_ju_getChar : zMe := ("java/lang/StringUTF16", ⟨"java/lang/StringUTF16", "getChar", "([BI)C"⟩, prog_16_method_5_code, 2, (some (.char : FieldType)), 0, 0)
theorem mk_ju_getChar : zMk m_ju_getChar := ⟨zG_of 421 (by decide +kernel) rfl, zG_of 14 (by decide +kernel) rfl, by decide +kernel, ⟨by decide +kernel, by decide +kernel⟩, rfl, by decide⟩
abbrev m_inp_take : zMe := ("StatuteConsolidator$Input", ⟨"StatuteConsolidator$Input", "take", "(I)Z"⟩, prog_3_method_6_code, 2, (some (.boolean : FieldType)), 0, 0)
theorem mk_inp_take : zMk m_inp_take := ⟨zG_of 432 (by decide +kernel) rfl, zG_of 5 (by decide +kernel) rfl, by decide +kernel, ⟨by decide +kernel, by decide +kernel⟩, rfl, by decide⟩
abbrev m_inp_peek : zMe := ("StatuteConsolidator$Input", ⟨"StatuteConsolidator$Input", "peek", "()I"⟩, prog_3_method_5_code, 1, (some (.int : FieldType)), 0, 0)
theorem mk_inp_peek : zMk m_inp_peek := ⟨zG_of 436 (by decide +kernel) rfl, zG_of 5 (by decide +kernel) rfl, by decide +kernel, ⟨by decide +kernel, by decide +kernel⟩, rfl, by decide⟩
abbrev m_inp_readPath : zMe := ("StatuteConsolidator$Input", ⟨"StatuteConsolidator$Input", "readPath", "()J"⟩, prog_3_method_11_code, 5, (some (.long : FieldType)), 0, 0)
theorem mk_inp_readPath : zMk m_inp_readPath := ⟨zG_of 440 (by decide +kernel) rfl, zG_of 5 (by decide +kernel) rfl, by decide +kernel, ⟨by decide +kernel, by decide +kernel⟩, rfl, by decide⟩
abbrev m_inp_readLabel : zMe := ("StatuteConsolidator$Input", ⟨"StatuteConsolidator$Input", "readLabel", "()I"⟩, prog_3_method_12_code, 5, (some (.int : FieldType)), 0, 0)
theorem mk_inp_readLabel : zMk m_inp_readLabel := ⟨zG_of 444 (by decide +kernel) rfl, zG_of 5 (by decide +kernel) rfl, by decide +kernel, ⟨by decide +kernel, by decide +kernel⟩, rfl, by decide⟩
abbrev m_inp_isNextBetween : zMe := ("StatuteConsolidator$Input", ⟨"StatuteConsolidator$Input", "isNextBetween", "(II)Z"⟩, prog_3_method_7_code, 3, (some (.boolean : FieldType)), 0, 0)
theorem mk_inp_isNextBetween : zMk m_inp_isNextBetween := ⟨zG_of 448 (by decide +kernel) rfl, zG_of 5 (by decide +kernel) rfl, by decide +kernel, ⟨by decide +kernel, by decide +kernel⟩, rfl, by decide⟩
abbrev m_inp_takeDigit : zMe := ("StatuteConsolidator$Input", ⟨"StatuteConsolidator$Input", "takeDigit", "()I"⟩, prog_3_method_14_code, 2, (some (.int : FieldType)), 0, 0)
theorem mk_inp_takeDigit : zMk m_inp_takeDigit := ⟨zG_of 452 (by decide +kernel) rfl, zG_of 5 (by decide +kernel) rfl, by decide +kernel, ⟨by decide +kernel, by decide +kernel⟩, rfl, by decide⟩
abbrev m_inp_readText : zMe := ("StatuteConsolidator$Input", ⟨"StatuteConsolidator$Input", "readText", "()I"⟩, prog_3_method_13_code, 3, (some (.int : FieldType)), 0, 0)
theorem mk_inp_readText : zMk m_inp_readText := ⟨zG_of 458 (by decide +kernel) rfl, zG_of 5 (by decide +kernel) rfl, by decide +kernel, ⟨by decide +kernel, by decide +kernel⟩, rfl, by decide⟩
abbrev m_sc_amendmentCount : zMe := ("StatuteConsolidator", ⟨"StatuteConsolidator", "amendmentCount", "()I"⟩, prog_1_method_11_code, 1, (some (.int : FieldType)), 0, 0)
theorem mk_sc_amendmentCount : zMk m_sc_amendmentCount := ⟨zG_of 463 (by decide +kernel) rfl, zG_of 1 (by decide +kernel) rfl, by decide +kernel, ⟨by decide +kernel, by decide +kernel⟩, rfl, by decide⟩
abbrev m_sc_instructionCount : zMe := ("StatuteConsolidator", ⟨"StatuteConsolidator", "instructionCount", "(I)I"⟩, prog_1_method_12_code, 2, (some (.int : FieldType)), 0, 0)
theorem mk_sc_instructionCount : zMk m_sc_instructionCount := ⟨zG_of 467 (by decide +kernel) rfl, zG_of 1 (by decide +kernel) rfl, by decide +kernel, ⟨by decide +kernel, by decide +kernel⟩, rfl, by decide⟩
abbrev m_am_has : zMe := ("StatuteConsolidator$Amendments", ⟨"StatuteConsolidator$Amendments", "has", "(I)Z"⟩, prog_2_method_3_code, 2, (some (.boolean : FieldType)), 0, 0)
theorem mk_am_has : zMk m_am_has := ⟨zG_of 471 (by decide +kernel) rfl, zG_of 4 (by decide +kernel) rfl, by decide +kernel, ⟨by decide +kernel, by decide +kernel⟩, rfl, by decide⟩
abbrev m_sc_setCommencement : zMe := ("StatuteConsolidator", ⟨"StatuteConsolidator", "setCommencement", "(II)I"⟩, prog_1_method_13_code, 4, (some (.int : FieldType)), 0, 0)
theorem mk_sc_setCommencement : zMk m_sc_setCommencement := ⟨zG_of 475 (by decide +kernel) rfl, zG_of 1 (by decide +kernel) rfl, by decide +kernel, ⟨by decide +kernel, by decide +kernel⟩, rfl, by decide⟩
abbrev m_sc_removeLastAmendment : zMe := ("StatuteConsolidator", ⟨"StatuteConsolidator", "removeLastAmendment", "()I"⟩, prog_1_method_14_code, 1, (some (.int : FieldType)), 0, 0)
theorem mk_sc_removeLastAmendment : zMk m_sc_removeLastAmendment := ⟨zG_of 479 (by decide +kernel) rfl, zG_of 1 (by decide +kernel) rfl, by decide +kernel, ⟨by decide +kernel, by decide +kernel⟩, rfl, by decide⟩
abbrev m_sc_provisionCount : zMe := ("StatuteConsolidator", ⟨"StatuteConsolidator", "provisionCount", "(I)I"⟩, prog_1_method_15_code, 2, (some (.int : FieldType)), 0, 0)
theorem mk_sc_provisionCount : zMk m_sc_provisionCount := ⟨zG_of 483 (by decide +kernel) rfl, zG_of 1 (by decide +kernel) rfl, by decide +kernel, ⟨by decide +kernel, by decide +kernel⟩, rfl, by decide⟩
abbrev m_ver_compute : zMe := ("StatuteConsolidator$Version", ⟨"StatuteConsolidator$Version", "compute", "(LStatuteConsolidator$Statute;I)Z"⟩, prog_8_method_2_code, 6, (some (.boolean : FieldType)), 0, 0)
theorem mk_ver_compute : zMk m_ver_compute := ⟨zG_of 487 (by decide +kernel) rfl, zG_of 7 (by decide +kernel) rfl, by decide +kernel, ⟨by decide +kernel, by decide +kernel⟩, rfl, by decide⟩
abbrev m_ver_start : zMe := ("StatuteConsolidator$Version", ⟨"StatuteConsolidator$Version", "start", "(LStatuteConsolidator$Statute;)V"⟩, prog_8_method_4_code, 2, none, 0, 0)
theorem mk_ver_start : zMk m_ver_start := ⟨zG_of 491 (by decide +kernel) rfl, zG_of 7 (by decide +kernel) rfl, by decide +kernel, ⟨by decide +kernel, by decide +kernel⟩, rfl, by decide⟩
abbrev m_pv_copyFrom : zMe := ("StatuteConsolidator$Provisions", ⟨"StatuteConsolidator$Provisions", "copyFrom", "(LStatuteConsolidator$Provisions;)V"⟩, prog_5_method_2_code, 3, none, 0, 0)
theorem mk_pv_copyFrom : zMk m_pv_copyFrom := ⟨zG_of 495 (by decide +kernel) rfl, zG_of 3 (by decide +kernel) rfl, by decide +kernel, ⟨by decide +kernel, by decide +kernel⟩, rfl, by decide⟩
abbrev m_am_nextAfter : zMe := ("StatuteConsolidator$Amendments", ⟨"StatuteConsolidator$Amendments", "nextAfter", "(I)I"⟩, prog_2_method_4_code, 5, (some (.int : FieldType)), 0, 0)
theorem mk_am_nextAfter : zMk m_am_nextAfter := ⟨zG_of 499 (by decide +kernel) rfl, zG_of 4 (by decide +kernel) rfl, by decide +kernel, ⟨by decide +kernel, by decide +kernel⟩, rfl, by decide⟩
abbrev m_am_isBefore : zMe := ("StatuteConsolidator$Amendments", ⟨"StatuteConsolidator$Amendments", "isBefore", "(II)Z"⟩, prog_2_method_5_code, 3, (some (.boolean : FieldType)), 0, 0)
theorem mk_am_isBefore : zMk m_am_isBefore := ⟨zG_of 503 (by decide +kernel) rfl, zG_of 4 (by decide +kernel) rfl, by decide +kernel, ⟨by decide +kernel, by decide +kernel⟩, rfl, by decide⟩
abbrev m_ver_apply : zMe := ("StatuteConsolidator$Version", ⟨"StatuteConsolidator$Version", "apply", "(LStatuteConsolidator$Amendments;I)V"⟩, prog_8_method_5_code, 7, none, 0, 0)
theorem mk_ver_apply : zMk m_ver_apply := ⟨zG_of 507 (by decide +kernel) rfl, zG_of 7 (by decide +kernel) rfl, by decide +kernel, ⟨by decide +kernel, by decide +kernel⟩, rfl, by decide⟩
abbrev m_ver_reasonAgainst : zMe := ("StatuteConsolidator$Version", ⟨"StatuteConsolidator$Version", "reasonAgainst", "(LStatuteConsolidator$Amendments;I)I"⟩, prog_8_method_8_code, 11, (some (.int : FieldType)), 0, 0)
theorem mk_ver_reasonAgainst : zMk m_ver_reasonAgainst := ⟨zG_of 512 (by decide +kernel) rfl, zG_of 7 (by decide +kernel) rfl, by decide +kernel, ⟨by decide +kernel, by decide +kernel⟩, rfl, by decide⟩
abbrev m_pv_positionOf : zMe := ("StatuteConsolidator$Provisions", ⟨"StatuteConsolidator$Provisions", "positionOf", "(J)I"⟩, prog_5_method_4_code, 4, (some (.int : FieldType)), 0, 0)
theorem mk_pv_positionOf : zMk m_pv_positionOf := ⟨zG_of 516 (by decide +kernel) rfl, zG_of 3 (by decide +kernel) rfl, by decide +kernel, ⟨by decide +kernel, by decide +kernel⟩, rfl, by decide⟩
abbrev m_ver_carryOut : zMe := ("StatuteConsolidator$Version", ⟨"StatuteConsolidator$Version", "carryOut", "(LStatuteConsolidator$Amendments;II)I"⟩, prog_8_method_9_code, 7, (some (.int : FieldType)), 0, 0)
theorem mk_ver_carryOut : zMk m_ver_carryOut := ⟨zG_of 521 (by decide +kernel) rfl, zG_of 7 (by decide +kernel) rfl, by decide +kernel, ⟨by decide +kernel, by decide +kernel⟩, rfl, by decide⟩
abbrev m_ver_insertAfter : zMe := ("StatuteConsolidator$Version", ⟨"StatuteConsolidator$Version", "insertAfter", "(JII)I"⟩, prog_8_method_10_code, 6, (some (.int : FieldType)), 0, 0)
theorem mk_ver_insertAfter : zMk m_ver_insertAfter := ⟨zG_of 525 (by decide +kernel) rfl, zG_of 7 (by decide +kernel) rfl, by decide +kernel, ⟨by decide +kernel, by decide +kernel⟩, rfl, by decide⟩
abbrev m_ver_addChild : zMe := ("StatuteConsolidator$Version", ⟨"StatuteConsolidator$Version", "addChild", "(JII)I"⟩, prog_8_method_11_code, 6, (some (.int : FieldType)), 0, 0)
theorem mk_ver_addChild : zMk m_ver_addChild := ⟨zG_of 533 (by decide +kernel) rfl, zG_of 7 (by decide +kernel) rfl, by decide +kernel, ⟨by decide +kernel, by decide +kernel⟩, rfl, by decide⟩
abbrev m_ver_replaceText : zMe := ("StatuteConsolidator$Version", ⟨"StatuteConsolidator$Version", "replaceText", "(JI)I"⟩, prog_8_method_12_code, 5, (some (.int : FieldType)), 0, 0)
theorem mk_ver_replaceText : zMk m_ver_replaceText := ⟨zG_of 539 (by decide +kernel) rfl, zG_of 7 (by decide +kernel) rfl, by decide +kernel, ⟨by decide +kernel, by decide +kernel⟩, rfl, by decide⟩
abbrev m_pv_repeal : zMe := ("StatuteConsolidator$Provisions", ⟨"StatuteConsolidator$Provisions", "repeal", "(J)V"⟩, prog_5_method_10_code, 5, none, 0, 0)
theorem mk_pv_repeal : zMk m_pv_repeal := ⟨zG_of 543 (by decide +kernel) rfl, zG_of 3 (by decide +kernel) rfl, by decide +kernel, ⟨by decide +kernel, by decide +kernel⟩, rfl, by decide⟩
abbrev m_pa_isWithin : zMe := ("StatuteConsolidator$Paths", ⟨"StatuteConsolidator$Paths", "isWithin", "(JJI)Z"⟩, prog_4_method_14_code, 6, (some (.boolean : FieldType)), 0, 0)
theorem mk_pa_isWithin : zMk m_pa_isWithin := ⟨zG_of 546 (by decide +kernel) rfl, zG_of 9 (by decide +kernel) rfl, by decide +kernel, ⟨by decide +kernel, by decide +kernel⟩, rfl, by decide⟩
abbrev m_ver_moveAfter : zMe := ("StatuteConsolidator$Version", ⟨"StatuteConsolidator$Version", "moveAfter", "(JJ)I"⟩, prog_8_method_13_code, 6, (some (.int : FieldType)), 0, 0)
theorem mk_ver_moveAfter : zMk m_ver_moveAfter := ⟨zG_of 550 (by decide +kernel) rfl, zG_of 7 (by decide +kernel) rfl, by decide +kernel, ⟨by decide +kernel, by decide +kernel⟩, rfl, by decide⟩
abbrev m_pv_changePath : zMe := ("StatuteConsolidator$Provisions", ⟨"StatuteConsolidator$Provisions", "changePath", "(JJ)V"⟩, prog_5_method_11_code, 7, none, 0, 0)
theorem mk_pv_changePath : zMk m_pv_changePath := ⟨zG_of 554 (by decide +kernel) rfl, zG_of 3 (by decide +kernel) rfl, by decide +kernel, ⟨by decide +kernel, by decide +kernel⟩, rfl, by decide⟩
abbrev m_pa_tailBelow : zMe := ("StatuteConsolidator$Paths", ⟨"StatuteConsolidator$Paths", "tailBelow", "(JI)J"⟩, prog_4_method_13_code, 3, (some (.long : FieldType)), 0, 0)
theorem mk_pa_tailBelow : zMk m_pa_tailBelow := ⟨zG_of 557 (by decide +kernel) rfl, zG_of 9 (by decide +kernel) rfl, by decide +kernel, ⟨by decide +kernel, by decide +kernel⟩, rfl, by decide⟩
abbrev m_pv_renumberChildren : zMe := ("StatuteConsolidator$Provisions", ⟨"StatuteConsolidator$Provisions", "renumberChildren", "(J)V"⟩, prog_5_method_12_code, 11, none, 0, 0)
theorem mk_pv_renumberChildren : zMk m_pv_renumberChildren := ⟨zG_of 561 (by decide +kernel) rfl, zG_of 3 (by decide +kernel) rfl, by decide +kernel, ⟨by decide +kernel, by decide +kernel⟩, rfl, by decide⟩
abbrev m_ver_keepConflict : zMe := ("StatuteConsolidator$Version", ⟨"StatuteConsolidator$Version", "keepConflict", "(III)V"⟩, prog_8_method_7_code, 4, none, 0, 0)
theorem mk_ver_keepConflict : zMk m_ver_keepConflict := ⟨zG_of 566 (by decide +kernel) rfl, zG_of 7 (by decide +kernel) rfl, by decide +kernel, ⟨by decide +kernel, by decide +kernel⟩, rfl, by decide⟩
abbrev m_sc_levelAt : zMe := ("StatuteConsolidator", ⟨"StatuteConsolidator", "levelAt", "(II)I"⟩, prog_1_method_16_code, 4, (some (.int : FieldType)), 0, 0)
theorem mk_sc_levelAt : zMk m_sc_levelAt := ⟨zG_of 570 (by decide +kernel) rfl, zG_of 1 (by decide +kernel) rfl, by decide +kernel, ⟨by decide +kernel, by decide +kernel⟩, rfl, by decide⟩
abbrev m_sc_refusalAt : zMe := ("StatuteConsolidator", ⟨"StatuteConsolidator", "refusalAt", "(II)I"⟩, prog_1_method_45_code, 3, (some (.int : FieldType)), 0, 0)
theorem mk_sc_refusalAt : zMk m_sc_refusalAt := ⟨zG_of 574 (by decide +kernel) rfl, zG_of 1 (by decide +kernel) rfl, by decide +kernel, ⟨by decide +kernel, by decide +kernel⟩, rfl, by decide⟩
abbrev m_pv_has : zMe := ("StatuteConsolidator$Provisions", ⟨"StatuteConsolidator$Provisions", "has", "(I)Z"⟩, prog_5_method_3_code, 2, (some (.boolean : FieldType)), 0, 0)
theorem mk_pv_has : zMk m_pv_has := ⟨zG_of 578 (by decide +kernel) rfl, zG_of 3 (by decide +kernel) rfl, by decide +kernel, ⟨by decide +kernel, by decide +kernel⟩, rfl, by decide⟩
abbrev m_sc_textAt : zMe := ("StatuteConsolidator", ⟨"StatuteConsolidator", "textAt", "(II)I"⟩, prog_1_method_17_code, 4, (some (.int : FieldType)), 0, 0)
theorem mk_sc_textAt : zMk m_sc_textAt := ⟨zG_of 582 (by decide +kernel) rfl, zG_of 1 (by decide +kernel) rfl, by decide +kernel, ⟨by decide +kernel, by decide +kernel⟩, rfl, by decide⟩
abbrev m_sc_isRepealedAt : zMe := ("StatuteConsolidator", ⟨"StatuteConsolidator", "isRepealedAt", "(II)I"⟩, prog_1_method_18_code, 4, (some (.int : FieldType)), 0, 0)
theorem mk_sc_isRepealedAt : zMk m_sc_isRepealedAt := ⟨zG_of 586 (by decide +kernel) rfl, zG_of 1 (by decide +kernel) rfl, by decide +kernel, ⟨by decide +kernel, by decide +kernel⟩, rfl, by decide⟩
abbrev m_sc_pathLengthAt : zMe := ("StatuteConsolidator", ⟨"StatuteConsolidator", "pathLengthAt", "(II)I"⟩, prog_1_method_19_code, 4, (some (.int : FieldType)), 0, 0)
theorem mk_sc_pathLengthAt : zMk m_sc_pathLengthAt := ⟨zG_of 590 (by decide +kernel) rfl, zG_of 1 (by decide +kernel) rfl, by decide +kernel, ⟨by decide +kernel, by decide +kernel⟩, rfl, by decide⟩
abbrev m_pa_lengthOf : zMe := ("StatuteConsolidator$Paths", ⟨"StatuteConsolidator$Paths", "lengthOf", "(J)I"⟩, prog_4_method_16_code, 6, (some (.int : FieldType)), 0, 0)
theorem mk_pa_lengthOf : zMk m_pa_lengthOf := ⟨zG_of 593 (by decide +kernel) rfl, zG_of 9 (by decide +kernel) rfl, by decide +kernel, ⟨by decide +kernel, by decide +kernel⟩, rfl, by decide⟩
abbrev m_pa_digitsOf : zMe := ("StatuteConsolidator$Paths", ⟨"StatuteConsolidator$Paths", "digitsOf", "(I)I"⟩, prog_4_method_15_code, 1, (some (.int : FieldType)), 0, 0)
theorem mk_pa_digitsOf : zMk m_pa_digitsOf := ⟨zG_of 597 (by decide +kernel) rfl, zG_of 9 (by decide +kernel) rfl, by decide +kernel, ⟨by decide +kernel, by decide +kernel⟩, rfl, by decide⟩
abbrev m_pa_lettersOf : zMe := ("StatuteConsolidator$Paths", ⟨"StatuteConsolidator$Paths", "lettersOf", "(I)I"⟩, prog_4_method_5_code, 2, (some (.int : FieldType)), 0, 0)
theorem mk_pa_lettersOf : zMk m_pa_lettersOf := ⟨zG_of 601 (by decide +kernel) rfl, zG_of 9 (by decide +kernel) rfl, by decide +kernel, ⟨by decide +kernel, by decide +kernel⟩, rfl, by decide⟩
abbrev m_pa_letterOf : zMe := ("StatuteConsolidator$Paths", ⟨"StatuteConsolidator$Paths", "letterOf", "(II)I"⟩, prog_4_method_4_code, 3, (some (.int : FieldType)), 0, 0)
theorem mk_pa_letterOf : zMk m_pa_letterOf := ⟨zG_of 604 (by decide +kernel) rfl, zG_of 9 (by decide +kernel) rfl, by decide +kernel, ⟨by decide +kernel, by decide +kernel⟩, rfl, by decide⟩
abbrev m_sc_pathCharacterAt : zMe := ("StatuteConsolidator", ⟨"StatuteConsolidator", "pathCharacterAt", "(III)I"⟩, prog_1_method_20_code, 5, (some (.int : FieldType)), 0, 0)
theorem mk_sc_pathCharacterAt : zMk m_sc_pathCharacterAt := ⟨zG_of 608 (by decide +kernel) rfl, zG_of 1 (by decide +kernel) rfl, by decide +kernel, ⟨by decide +kernel, by decide +kernel⟩, rfl, by decide⟩
abbrev m_pa_characterOf : zMe := ("StatuteConsolidator$Paths", ⟨"StatuteConsolidator$Paths", "characterOf", "(JI)I"⟩, prog_4_method_17_code, 9, (some (.int : FieldType)), 0, 0)
theorem mk_pa_characterOf : zMk m_pa_characterOf := ⟨zG_of 611 (by decide +kernel) rfl, zG_of 9 (by decide +kernel) rfl, by decide +kernel, ⟨by decide +kernel, by decide +kernel⟩, rfl, by decide⟩
abbrev m_pa_characterOfLabel : zMe := ("StatuteConsolidator$Paths", ⟨"StatuteConsolidator$Paths", "characterOfLabel", "(II)I"⟩, prog_4_method_18_code, 4, (some (.int : FieldType)), 0, 0)
theorem mk_pa_characterOfLabel : zMk m_pa_characterOfLabel := ⟨zG_of 614 (by decide +kernel) rfl, zG_of 9 (by decide +kernel) rfl, by decide +kernel, ⟨by decide +kernel, by decide +kernel⟩, rfl, by decide⟩
abbrev m_sc_originAt : zMe := ("StatuteConsolidator", ⟨"StatuteConsolidator", "originAt", "(II)I"⟩, prog_1_method_21_code, 4, (some (.int : FieldType)), 0, 0)
theorem mk_sc_originAt : zMk m_sc_originAt := ⟨zG_of 618 (by decide +kernel) rfl, zG_of 1 (by decide +kernel) rfl, by decide +kernel, ⟨by decide +kernel, by decide +kernel⟩, rfl, by decide⟩
abbrev m_sc_creatorAt : zMe := ("StatuteConsolidator", ⟨"StatuteConsolidator", "creatorAt", "(II)I"⟩, prog_1_method_22_code, 4, (some (.int : FieldType)), 0, 0)
theorem mk_sc_creatorAt : zMk m_sc_creatorAt := ⟨zG_of 622 (by decide +kernel) rfl, zG_of 1 (by decide +kernel) rfl, by decide +kernel, ⟨by decide +kernel, by decide +kernel⟩, rfl, by decide⟩
abbrev m_sc_find : zMe := ("StatuteConsolidator", ⟨"StatuteConsolidator", "find", "(I)I"⟩, prog_1_method_23_code, 5, (some (.int : FieldType)), 0, 0)
theorem mk_sc_find : zMk m_sc_find := ⟨zG_of 626 (by decide +kernel) rfl, zG_of 1 (by decide +kernel) rfl, by decide +kernel, ⟨by decide +kernel, by decide +kernel⟩, rfl, by decide⟩
abbrev m_inp_readOnlyPath : zMe := ("StatuteConsolidator$Input", ⟨"StatuteConsolidator$Input", "readOnlyPath", "()J"⟩, prog_3_method_4_code, 3, (some (.long : FieldType)), 0, 0)
theorem mk_inp_readOnlyPath : zMk m_inp_readOnlyPath := ⟨zG_of 630 (by decide +kernel) rfl, zG_of 5 (by decide +kernel) rfl, by decide +kernel, ⟨by decide +kernel, by decide +kernel⟩, rfl, by decide⟩
abbrev m_sc_firstDifference : zMe := ("StatuteConsolidator", ⟨"StatuteConsolidator", "firstDifference", "(II)I"⟩, prog_1_method_24_code, 3, (some (.int : FieldType)), 0, 0)
theorem mk_sc_firstDifference : zMk m_sc_firstDifference := ⟨zG_of 635 (by decide +kernel) rfl, zG_of 1 (by decide +kernel) rfl, by decide +kernel, ⟨by decide +kernel, by decide +kernel⟩, rfl, by decide⟩
abbrev m_pv_firstDifferenceFrom : zMe := ("StatuteConsolidator$Provisions", ⟨"StatuteConsolidator$Provisions", "firstDifferenceFrom", "(LStatuteConsolidator$Provisions;)I"⟩, prog_5_method_15_code, 4, (some (.int : FieldType)), 0, 0)
theorem mk_pv_firstDifferenceFrom : zMk m_pv_firstDifferenceFrom := ⟨zG_of 639 (by decide +kernel) rfl, zG_of 3 (by decide +kernel) rfl, by decide +kernel, ⟨by decide +kernel, by decide +kernel⟩, rfl, by decide⟩
abbrev m_pv_differsAt : zMe := ("StatuteConsolidator$Provisions", ⟨"StatuteConsolidator$Provisions", "differsAt", "(ILStatuteConsolidator$Provisions;)Z"⟩, prog_5_method_16_code, 3, (some (.boolean : FieldType)), 0, 0)
theorem mk_pv_differsAt : zMk m_pv_differsAt := ⟨zG_of 643 (by decide +kernel) rfl, zG_of 3 (by decide +kernel) rfl, by decide +kernel, ⟨by decide +kernel, by decide +kernel⟩, rfl, by decide⟩
abbrev m_sc_referenceCountAt : zMe := ("StatuteConsolidator", ⟨"StatuteConsolidator", "referenceCountAt", "(II)I"⟩, prog_1_method_25_code, 4, (some (.int : FieldType)), 0, 0)
theorem mk_sc_referenceCountAt : zMk m_sc_referenceCountAt := ⟨zG_of 647 (by decide +kernel) rfl, zG_of 1 (by decide +kernel) rfl, by decide +kernel, ⟨by decide +kernel, by decide +kernel⟩, rfl, by decide⟩
abbrev m_sta_referenceCountOf : zMe := ("StatuteConsolidator$Statute", ⟨"StatuteConsolidator$Statute", "referenceCountOf", "(I)I"⟩, prog_7_method_5_code, 2, (some (.int : FieldType)), 0, 0)
theorem mk_sta_referenceCountOf : zMk m_sta_referenceCountOf := ⟨zG_of 651 (by decide +kernel) rfl, zG_of 2 (by decide +kernel) rfl, by decide +kernel, ⟨by decide +kernel, by decide +kernel⟩, rfl, by decide⟩
abbrev m_sc_referenceAt : zMe := ("StatuteConsolidator", ⟨"StatuteConsolidator", "referenceAt", "(III)I"⟩, prog_1_method_26_code, 7, (some (.int : FieldType)), 0, 0)
theorem mk_sc_referenceAt : zMk m_sc_referenceAt := ⟨zG_of 656 (by decide +kernel) rfl, zG_of 1 (by decide +kernel) rfl, by decide +kernel, ⟨by decide +kernel, by decide +kernel⟩, rfl, by decide⟩
abbrev m_pv_positionInForce : zMe := ("StatuteConsolidator$Provisions", ⟨"StatuteConsolidator$Provisions", "positionInForce", "(I)I"⟩, prog_5_method_6_code, 3, (some (.int : FieldType)), 0, 0)
theorem mk_pv_positionInForce : zMk m_pv_positionInForce := ⟨zG_of 660 (by decide +kernel) rfl, zG_of 3 (by decide +kernel) rfl, by decide +kernel, ⟨by decide +kernel, by decide +kernel⟩, rfl, by decide⟩
abbrev m_sc_danglingCount : zMe := ("StatuteConsolidator", ⟨"StatuteConsolidator", "danglingCount", "(I)I"⟩, prog_1_method_27_code, 4, (some (.int : FieldType)), 0, 0)
theorem mk_sc_danglingCount : zMk m_sc_danglingCount := ⟨zG_of 665 (by decide +kernel) rfl, zG_of 1 (by decide +kernel) rfl, by decide +kernel, ⟨by decide +kernel, by decide +kernel⟩, rfl, by decide⟩
abbrev m_sc_danglingReferencesOf : zMe := ("StatuteConsolidator", ⟨"StatuteConsolidator", "danglingReferencesOf", "(I)I"⟩, prog_1_method_46_code, 5, (some (.int : FieldType)), 0, 0)
theorem mk_sc_danglingReferencesOf : zMk m_sc_danglingReferencesOf := ⟨zG_of 669 (by decide +kernel) rfl, zG_of 1 (by decide +kernel) rfl, by decide +kernel, ⟨by decide +kernel, by decide +kernel⟩, rfl, by decide⟩
abbrev m_sc_conflictCount : zMe := ("StatuteConsolidator", ⟨"StatuteConsolidator", "conflictCount", "(I)I"⟩, prog_1_method_28_code, 2, (some (.int : FieldType)), 0, 0)
theorem mk_sc_conflictCount : zMk m_sc_conflictCount := ⟨zG_of 673 (by decide +kernel) rfl, zG_of 1 (by decide +kernel) rfl, by decide +kernel, ⟨by decide +kernel, by decide +kernel⟩, rfl, by decide⟩
abbrev m_sc_conflictAmendment : zMe := ("StatuteConsolidator", ⟨"StatuteConsolidator", "conflictAmendment", "(II)I"⟩, prog_1_method_29_code, 3, (some (.int : FieldType)), 0, 0)
theorem mk_sc_conflictAmendment : zMk m_sc_conflictAmendment := ⟨zG_of 677 (by decide +kernel) rfl, zG_of 1 (by decide +kernel) rfl, by decide +kernel, ⟨by decide +kernel, by decide +kernel⟩, rfl, by decide⟩
abbrev m_ver_hasConflict : zMe := ("StatuteConsolidator$Version", ⟨"StatuteConsolidator$Version", "hasConflict", "(I)Z"⟩, prog_8_method_6_code, 2, (some (.boolean : FieldType)), 0, 0)
theorem mk_ver_hasConflict : zMk m_ver_hasConflict := ⟨zG_of 681 (by decide +kernel) rfl, zG_of 7 (by decide +kernel) rfl, by decide +kernel, ⟨by decide +kernel, by decide +kernel⟩, rfl, by decide⟩
abbrev m_sc_conflictInstruction : zMe := ("StatuteConsolidator", ⟨"StatuteConsolidator", "conflictInstruction", "(II)I"⟩, prog_1_method_30_code, 3, (some (.int : FieldType)), 0, 0)
theorem mk_sc_conflictInstruction : zMk m_sc_conflictInstruction := ⟨zG_of 685 (by decide +kernel) rfl, zG_of 1 (by decide +kernel) rfl, by decide +kernel, ⟨by decide +kernel, by decide +kernel⟩, rfl, by decide⟩
abbrev m_sc_conflictReason : zMe := ("StatuteConsolidator", ⟨"StatuteConsolidator", "conflictReason", "(II)I"⟩, prog_1_method_31_code, 3, (some (.int : FieldType)), 0, 0)
theorem mk_sc_conflictReason : zMk m_sc_conflictReason := ⟨zG_of 689 (by decide +kernel) rfl, zG_of 1 (by decide +kernel) rfl, by decide +kernel, ⟨by decide +kernel, by decide +kernel⟩, rfl, by decide⟩
abbrev m_sc_doCommute : zMe := ("StatuteConsolidator", ⟨"StatuteConsolidator", "doCommute", "(II)I"⟩, prog_1_method_32_code, 3, (some (.int : FieldType)), 0, 0)
theorem mk_sc_doCommute : zMk m_sc_doCommute := ⟨zG_of 693 (by decide +kernel) rfl, zG_of 1 (by decide +kernel) rfl, by decide +kernel, ⟨by decide +kernel, by decide +kernel⟩, rfl, by decide⟩
abbrev m_ver_computeFromTwo : zMe := ("StatuteConsolidator$Version", ⟨"StatuteConsolidator$Version", "computeFromTwo", "(LStatuteConsolidator$Statute;II)V"⟩, prog_8_method_3_code, 4, none, 0, 0)
theorem mk_ver_computeFromTwo : zMk m_ver_computeFromTwo := ⟨zG_of 697 (by decide +kernel) rfl, zG_of 7 (by decide +kernel) rfl, by decide +kernel, ⟨by decide +kernel, by decide +kernel⟩, rfl, by decide⟩
abbrev m_pv_isSameResultAs : zMe := ("StatuteConsolidator$Provisions", ⟨"StatuteConsolidator$Provisions", "isSameResultAs", "(LStatuteConsolidator$Provisions;)Z"⟩, prog_5_method_17_code, 3, (some (.boolean : FieldType)), 0, 0)
theorem mk_pv_isSameResultAs : zMk m_pv_isSameResultAs := ⟨zG_of 701 (by decide +kernel) rfl, zG_of 3 (by decide +kernel) rfl, by decide +kernel, ⟨by decide +kernel, by decide +kernel⟩, rfl, by decide⟩
abbrev m_sc_averageLevel : zMe := ("StatuteConsolidator", ⟨"StatuteConsolidator", "averageLevel", "(I)I"⟩, prog_1_method_33_code, 5, (some (.int : FieldType)), 0, 0)
theorem mk_sc_averageLevel : zMk m_sc_averageLevel := ⟨zG_of 706 (by decide +kernel) rfl, zG_of 1 (by decide +kernel) rfl, by decide +kernel, ⟨by decide +kernel, by decide +kernel⟩, rfl, by decide⟩
abbrev m_sc_quotientBits : zMe := ("StatuteConsolidator", ⟨"StatuteConsolidator", "quotientBits", "(IIII)J"⟩, prog_1_method_47_code, 15, (some (.long : FieldType)), 0, 0)
theorem mk_sc_quotientBits : zMk m_sc_quotientBits := ⟨zG_of 710 (by decide +kernel) rfl, zG_of 1 (by decide +kernel) rfl, by decide +kernel, ⟨by decide +kernel, by decide +kernel⟩, rfl, by decide⟩
abbrev m_sc_repealedShare : zMe := ("StatuteConsolidator", ⟨"StatuteConsolidator", "repealedShare", "(I)J"⟩, prog_1_method_34_code, 4, (some (.long : FieldType)), 0, 0)
theorem mk_sc_repealedShare : zMk m_sc_repealedShare := ⟨zG_of 715 (by decide +kernel) rfl, zG_of 1 (by decide +kernel) rfl, by decide +kernel, ⟨by decide +kernel, by decide +kernel⟩, rfl, by decide⟩
abbrev m_sc_newShelf : zMe := ("StatuteConsolidator", ⟨"StatuteConsolidator", "newShelf", "(III)I"⟩, prog_1_method_35_code, 4, (some (.int : FieldType)), 0, 0)
theorem mk_sc_newShelf : zMk m_sc_newShelf := ⟨zG_of 721 (by decide +kernel) rfl, zG_of 1 (by decide +kernel) rfl, by decide +kernel, ⟨by decide +kernel, by decide +kernel⟩, rfl, by decide⟩
abbrev m_sc_isShelf : zMe := ("StatuteConsolidator", ⟨"StatuteConsolidator", "isShelf", "(I)Z"⟩, prog_1_method_43_code, 1, (some (.boolean : FieldType)), 0, 0)
theorem mk_sc_isShelf : zMk m_sc_isShelf := ⟨zG_of 724 (by decide +kernel) rfl, zG_of 1 (by decide +kernel) rfl, by decide +kernel, ⟨by decide +kernel, by decide +kernel⟩, rfl, by decide⟩
abbrev m_sh_fillWithMissing : zMe := ("StatuteConsolidator$Shelves", ⟨"StatuteConsolidator$Shelves", "fillWithMissing", "(III)V"⟩, prog_6_method_4_code, 5, none, 0, 0)
theorem mk_sh_fillWithMissing : zMk m_sh_fillWithMissing := ⟨zG_of 728 (by decide +kernel) rfl, zG_of 6 (by decide +kernel) rfl, by decide +kernel, ⟨by decide +kernel, by decide +kernel⟩, rfl, by decide⟩
abbrev m_sc_place : zMe := ("StatuteConsolidator", ⟨"StatuteConsolidator", "place", "(III)I"⟩, prog_1_method_36_code, 6, (some (.int : FieldType)), 0, 0)
theorem mk_sc_place : zMk m_sc_place := ⟨zG_of 732 (by decide +kernel) rfl, zG_of 1 (by decide +kernel) rfl, by decide +kernel, ⟨by decide +kernel, by decide +kernel⟩, rfl, by decide⟩
abbrev m_sh_refusalOf : zMe := ("StatuteConsolidator$Shelves", ⟨"StatuteConsolidator$Shelves", "refusalOf", "(II)I"⟩, prog_6_method_3_code, 3, (some (.int : FieldType)), 0, 0)
theorem mk_sh_refusalOf : zMk m_sh_refusalOf := ⟨zG_of 736 (by decide +kernel) rfl, zG_of 6 (by decide +kernel) rfl, by decide +kernel, ⟨by decide +kernel, by decide +kernel⟩, rfl, by decide⟩
abbrev m_sc_shelved : zMe := ("StatuteConsolidator", ⟨"StatuteConsolidator", "shelved", "(II)I"⟩, prog_1_method_37_code, 4, (some (.int : FieldType)), 0, 0)
theorem mk_sc_shelved : zMk m_sc_shelved := ⟨zG_of 740 (by decide +kernel) rfl, zG_of 1 (by decide +kernel) rfl, by decide +kernel, ⟨by decide +kernel, by decide +kernel⟩, rfl, by decide⟩
abbrev m_sc_copyShelf : zMe := ("StatuteConsolidator", ⟨"StatuteConsolidator", "copyShelf", "(II)I"⟩, prog_1_method_38_code, 3, (some (.int : FieldType)), 0, 0)
theorem mk_sc_copyShelf : zMk m_sc_copyShelf := ⟨zG_of 744 (by decide +kernel) rfl, zG_of 1 (by decide +kernel) rfl, by decide +kernel, ⟨by decide +kernel, by decide +kernel⟩, rfl, by decide⟩
abbrev m_sh_copyArray : zMe := ("StatuteConsolidator$Shelves", ⟨"StatuteConsolidator$Shelves", "copyArray", "(II)V"⟩, prog_6_method_5_code, 3, none, 0, 0)
theorem mk_sh_copyArray : zMk m_sh_copyArray := ⟨zG_of 748 (by decide +kernel) rfl, zG_of 6 (by decide +kernel) rfl, by decide +kernel, ⟨by decide +kernel, by decide +kernel⟩, rfl, by decide⟩
abbrev m_sc_saveSnapshot : zMe := ("StatuteConsolidator", ⟨"StatuteConsolidator", "saveSnapshot", "()I"⟩, prog_1_method_39_code, 1, (some (.int : FieldType)), 0, 0)
theorem mk_sc_saveSnapshot : zMk m_sc_saveSnapshot := ⟨zG_of 755 (by decide +kernel) rfl, zG_of 1 (by decide +kernel) rfl, by decide +kernel, ⟨by decide +kernel, by decide +kernel⟩, rfl, by decide⟩
abbrev m_sta_copyFrom : zMe := ("StatuteConsolidator$Statute", ⟨"StatuteConsolidator$Statute", "copyFrom", "(LStatuteConsolidator$Statute;)V"⟩, prog_7_method_2_code, 3, none, 0, 0)
theorem mk_sta_copyFrom : zMk m_sta_copyFrom := ⟨zG_of 759 (by decide +kernel) rfl, zG_of 2 (by decide +kernel) rfl, by decide +kernel, ⟨by decide +kernel, by decide +kernel⟩, rfl, by decide⟩
abbrev m_am_copyFrom : zMe := ("StatuteConsolidator$Amendments", ⟨"StatuteConsolidator$Amendments", "copyFrom", "(LStatuteConsolidator$Amendments;)V"⟩, prog_2_method_2_code, 2, none, 0, 0)
theorem mk_am_copyFrom : zMk m_am_copyFrom := ⟨zG_of 765 (by decide +kernel) rfl, zG_of 4 (by decide +kernel) rfl, by decide +kernel, ⟨by decide +kernel, by decide +kernel⟩, rfl, by decide⟩
abbrev m_sc_restoreSnapshot : zMe := ("StatuteConsolidator", ⟨"StatuteConsolidator", "restoreSnapshot", "()I"⟩, prog_1_method_40_code, 1, (some (.int : FieldType)), 0, 0)
theorem mk_sc_restoreSnapshot : zMk m_sc_restoreSnapshot := ⟨zG_of 770 (by decide +kernel) rfl, zG_of 1 (by decide +kernel) rfl, by decide +kernel, ⟨by decide +kernel, by decide +kernel⟩, rfl, by decide⟩
abbrev m_mo_init : zMe := ("StatuteConsolidatorModel", ⟨"StatuteConsolidatorModel", "<init>", "()V"⟩, prog_10_method_1_code, 1, none, 43, 4987)
theorem mk_mo_init : zMk m_mo_init := ⟨zG_of 775 (by decide +kernel) rfl, zG_of 8 (by decide +kernel) rfl, by decide +kernel, ⟨by decide +kernel, by decide +kernel⟩, rfl, by decide⟩
abbrev m_mo_emptyRow3 : zMe := ("StatuteConsolidatorModel", ⟨"StatuteConsolidatorModel", "emptyRow", "(I)[I"⟩, prog_10_method_83_code, 3, (some ((.array .int) : FieldType)), 1, 3)
theorem mk_mo_emptyRow3 : zMk m_mo_emptyRow3 := ⟨zG_of 779 (by decide +kernel) rfl, zG_of 8 (by decide +kernel) rfl, by decide +kernel, ⟨by decide +kernel, by decide +kernel⟩, rfl, by decide⟩
abbrev m_mo_emptyRow30 : zMe := ("StatuteConsolidatorModel", ⟨"StatuteConsolidatorModel", "emptyRow", "(I)[I"⟩, prog_10_method_83_code, 3, (some ((.array .int) : FieldType)), 1, 30)
theorem mk_mo_emptyRow30 : zMk m_mo_emptyRow30 := ⟨zG_of 779 (by decide +kernel) rfl, zG_of 8 (by decide +kernel) rfl, by decide +kernel, ⟨by decide +kernel, by decide +kernel⟩, rfl, by decide⟩
abbrev m_mo_addProvision : zMe := ("StatuteConsolidatorModel", ⟨"StatuteConsolidatorModel", "addProvision", "(II)I"⟩, prog_10_method_17_code, 3, (some (.int : FieldType)), 0, 0)
theorem mk_mo_addProvision : zMk m_mo_addProvision := ⟨zG_of 955 (by decide +kernel) rfl, zG_of 8 (by decide +kernel) rfl, by decide +kernel, ⟨by decide +kernel, by decide +kernel⟩, rfl, by decide⟩
abbrev m_mo_isOriginal : zMe := ("StatuteConsolidatorModel", ⟨"StatuteConsolidatorModel", "isOriginal", "(I)Z"⟩, prog_10_method_15_code, 2, (some (.boolean : FieldType)), 0, 0)
theorem mk_mo_isOriginal : zMk m_mo_isOriginal := ⟨zG_of 959 (by decide +kernel) rfl, zG_of 8 (by decide +kernel) rfl, by decide +kernel, ⟨by decide +kernel, by decide +kernel⟩, rfl, by decide⟩
abbrev m_mo_in : zMe := ("StatuteConsolidatorModel", ⟨"StatuteConsolidatorModel", "in", "(III)Z"⟩, prog_10_method_2_code, 3, (some (.boolean : FieldType)), 0, 0)
theorem mk_mo_in : zMk m_mo_in := ⟨zG_of 962 (by decide +kernel) rfl, zG_of 8 (by decide +kernel) rfl, by decide +kernel, ⟨by decide +kernel, by decide +kernel⟩, rfl, by decide⟩
abbrev m_mo_levelOf : zMe := ("StatuteConsolidatorModel", ⟨"StatuteConsolidatorModel", "levelOf", "(I)I"⟩, prog_10_method_4_code, 4, (some (.int : FieldType)), 0, 0)
theorem mk_mo_levelOf : zMk m_mo_levelOf := ⟨zG_of 966 (by decide +kernel) rfl, zG_of 8 (by decide +kernel) rfl, by decide +kernel, ⟨by decide +kernel, by decide +kernel⟩, rfl, by decide⟩
abbrev m_mo_beginVersion : zMe := ("StatuteConsolidatorModel", ⟨"StatuteConsolidatorModel", "beginVersion", "()V"⟩, prog_10_method_5_code, 3, none, 0, 0)
theorem mk_mo_beginVersion : zMk m_mo_beginVersion := ⟨zG_of 970 (by decide +kernel) rfl, zG_of 8 (by decide +kernel) rfl, by decide +kernel, ⟨by decide +kernel, by decide +kernel⟩, rfl, by decide⟩
abbrev m_mo_newNode : zMe := ("StatuteConsolidatorModel", ⟨"StatuteConsolidatorModel", "newNode", "(IIIIII)I"⟩, prog_10_method_3_code, 8, (some (.int : FieldType)), 0, 0)
theorem mk_mo_newNode : zMk m_mo_newNode := ⟨zG_of 974 (by decide +kernel) rfl, zG_of 8 (by decide +kernel) rfl, by decide +kernel, ⟨by decide +kernel, by decide +kernel⟩, rfl, by decide⟩
abbrev m_mo_labelAtEnd : zMe := ("StatuteConsolidatorModel", ⟨"StatuteConsolidatorModel", "labelAtEnd", "(I)I"⟩, prog_10_method_14_code, 4, (some (.int : FieldType)), 0, 0)
theorem mk_mo_labelAtEnd : zMk m_mo_labelAtEnd := ⟨zG_of 978 (by decide +kernel) rfl, zG_of 8 (by decide +kernel) rfl, by decide +kernel, ⟨by decide +kernel, by decide +kernel⟩, rfl, by decide⟩
abbrev m_mo_lastChild : zMe := ("StatuteConsolidatorModel", ⟨"StatuteConsolidatorModel", "lastChild", "(I)I"⟩, prog_10_method_7_code, 5, (some (.int : FieldType)), 0, 0)
theorem mk_mo_lastChild : zMk m_mo_lastChild := ⟨zG_of 982 (by decide +kernel) rfl, zG_of 8 (by decide +kernel) rfl, by decide +kernel, ⟨by decide +kernel, by decide +kernel⟩, rfl, by decide⟩
abbrev m_mo_addOriginal : zMe := ("StatuteConsolidatorModel", ⟨"StatuteConsolidatorModel", "addOriginal", "(III)I"⟩, prog_10_method_16_code, 4, (some (.int : FieldType)), 0, 0)
theorem mk_mo_addOriginal : zMk m_mo_addOriginal := ⟨zG_of 986 (by decide +kernel) rfl, zG_of 8 (by decide +kernel) rfl, by decide +kernel, ⟨by decide +kernel, by decide +kernel⟩, rfl, by decide⟩
abbrev m_mo_insertProvision : zMe := ("StatuteConsolidatorModel", ⟨"StatuteConsolidatorModel", "insertProvision", "(II)I"⟩, prog_10_method_18_code, 3, (some (.int : FieldType)), 0, 0)
theorem mk_mo_insertProvision : zMk m_mo_insertProvision := ⟨zG_of 990 (by decide +kernel) rfl, zG_of 8 (by decide +kernel) rfl, by decide +kernel, ⟨by decide +kernel, by decide +kernel⟩, rfl, by decide⟩
abbrev m_mo_labelAfter : zMe := ("StatuteConsolidatorModel", ⟨"StatuteConsolidatorModel", "labelAfter", "(I)I"⟩, prog_10_method_13_code, 5, (some (.int : FieldType)), 0, 0)
theorem mk_mo_labelAfter : zMk m_mo_labelAfter := ⟨zG_of 994 (by decide +kernel) rfl, zG_of 8 (by decide +kernel) rfl, by decide +kernel, ⟨by decide +kernel, by decide +kernel⟩, rfl, by decide⟩
abbrev m_mo_nextChild : zMe := ("StatuteConsolidatorModel", ⟨"StatuteConsolidatorModel", "nextChild", "(II)I"⟩, prog_10_method_6_code, 6, (some (.int : FieldType)), 0, 0)
theorem mk_mo_nextChild : zMk m_mo_nextChild := ⟨zG_of 998 (by decide +kernel) rfl, zG_of 8 (by decide +kernel) rfl, by decide +kernel, ⟨by decide +kernel, by decide +kernel⟩, rfl, by decide⟩
abbrev m_mo_suffixBetween : zMe := ("StatuteConsolidatorModel", ⟨"StatuteConsolidatorModel", "suffixBetween", "(II)I"⟩, prog_10_method_12_code, 5, (some (.int : FieldType)), 0, 0)
theorem mk_mo_suffixBetween : zMk m_mo_suffixBetween := ⟨zG_of 1001 (by decide +kernel) rfl, zG_of 8 (by decide +kernel) rfl, by decide +kernel, ⟨by decide +kernel, by decide +kernel⟩, rfl, by decide⟩
abbrev m_mo_isSuffix : zMe := ("StatuteConsolidatorModel", ⟨"StatuteConsolidatorModel", "isSuffix", "(I)Z"⟩, prog_10_method_11_code, 4, (some (.boolean : FieldType)), 0, 0)
theorem mk_mo_isSuffix : zMk m_mo_isSuffix := ⟨zG_of 1004 (by decide +kernel) rfl, zG_of 8 (by decide +kernel) rfl, by decide +kernel, ⟨by decide +kernel, by decide +kernel⟩, rfl, by decide⟩
abbrev m_mo_suffixLength : zMe := ("StatuteConsolidatorModel", ⟨"StatuteConsolidatorModel", "suffixLength", "(I)I"⟩, prog_10_method_10_code, 1, (some (.int : FieldType)), 0, 0)
theorem mk_mo_suffixLength : zMk m_mo_suffixLength := ⟨zG_of 1007 (by decide +kernel) rfl, zG_of 8 (by decide +kernel) rfl, by decide +kernel, ⟨by decide +kernel, by decide +kernel⟩, rfl, by decide⟩
abbrev m_mo_setText : zMe := ("StatuteConsolidatorModel", ⟨"StatuteConsolidatorModel", "setText", "(II)I"⟩, prog_10_method_19_code, 4, (some (.int : FieldType)), 0, 0)
theorem mk_mo_setText : zMk m_mo_setText := ⟨zG_of 1011 (by decide +kernel) rfl, zG_of 8 (by decide +kernel) rfl, by decide +kernel, ⟨by decide +kernel, by decide +kernel⟩, rfl, by decide⟩
abbrev m_mo_addReference : zMe := ("StatuteConsolidatorModel", ⟨"StatuteConsolidatorModel", "addReference", "(II)I"⟩, prog_10_method_20_code, 3, (some (.int : FieldType)), 0, 0)
theorem mk_mo_addReference : zMk m_mo_addReference := ⟨zG_of 1015 (by decide +kernel) rfl, zG_of 8 (by decide +kernel) rfl, by decide +kernel, ⟨by decide +kernel, by decide +kernel⟩, rfl, by decide⟩
abbrev m_mo_clear : zMe := ("StatuteConsolidatorModel", ⟨"StatuteConsolidatorModel", "clear", "()I"⟩, prog_10_method_21_code, 2, (some (.int : FieldType)), 0, 0)
theorem mk_mo_clear : zMk m_mo_clear := ⟨zG_of 1019 (by decide +kernel) rfl, zG_of 8 (by decide +kernel) rfl, by decide +kernel, ⟨by decide +kernel, by decide +kernel⟩, rfl, by decide⟩
abbrev m_mo_emptyShelves : zMe := ("StatuteConsolidatorModel", ⟨"StatuteConsolidatorModel", "emptyShelves", "()V"⟩, prog_10_method_84_code, 2, none, 0, 0)
theorem mk_mo_emptyShelves : zMk m_mo_emptyShelves := ⟨zG_of 1023 (by decide +kernel) rfl, zG_of 8 (by decide +kernel) rfl, by decide +kernel, ⟨by decide +kernel, by decide +kernel⟩, rfl, by decide⟩
abbrev m_mo_originalCount : zMe := ("StatuteConsolidatorModel", ⟨"StatuteConsolidatorModel", "originalCount", "()I"⟩, prog_10_method_22_code, 1, (some (.int : FieldType)), 0, 0)
theorem mk_mo_originalCount : zMk m_mo_originalCount := ⟨zG_of 1027 (by decide +kernel) rfl, zG_of 8 (by decide +kernel) rfl, by decide +kernel, ⟨by decide +kernel, by decide +kernel⟩, rfl, by decide⟩
abbrev m_mo_appendCharacter : zMe := ("StatuteConsolidatorModel", ⟨"StatuteConsolidatorModel", "appendCharacter", "(I)I"⟩, prog_10_method_23_code, 2, (some (.int : FieldType)), 0, 0)
theorem mk_mo_appendCharacter : zMk m_mo_appendCharacter := ⟨zG_of 1031 (by decide +kernel) rfl, zG_of 8 (by decide +kernel) rfl, by decide +kernel, ⟨by decide +kernel, by decide +kernel⟩, rfl, by decide⟩
abbrev m_mo_clearInput : zMe := ("StatuteConsolidatorModel", ⟨"StatuteConsolidatorModel", "clearInput", "()I"⟩, prog_10_method_24_code, 2, (some (.int : FieldType)), 0, 0)
theorem mk_mo_clearInput : zMk m_mo_clearInput := ⟨zG_of 1035 (by decide +kernel) rfl, zG_of 8 (by decide +kernel) rfl, by decide +kernel, ⟨by decide +kernel, by decide +kernel⟩, rfl, by decide⟩
abbrev m_mo_addAmendment : zMe := ("StatuteConsolidatorModel", ⟨"StatuteConsolidatorModel", "addAmendment", "(I)I"⟩, prog_10_method_34_code, 3, (some (.int : FieldType)), 0, 0)
theorem mk_mo_addAmendment : zMk m_mo_addAmendment := ⟨zG_of 1039 (by decide +kernel) rfl, zG_of 8 (by decide +kernel) rfl, by decide +kernel, ⟨by decide +kernel, by decide +kernel⟩, rfl, by decide⟩
abbrev m_mo_readAmendment : zMe := ("StatuteConsolidatorModel", ⟨"StatuteConsolidatorModel", "readAmendment", "(I)I"⟩, prog_10_method_35_code, 4, (some (.int : FieldType)), 0, 0)
theorem mk_mo_readAmendment : zMk m_mo_readAmendment := ⟨zG_of 1043 (by decide +kernel) rfl, zG_of 8 (by decide +kernel) rfl, by decide +kernel, ⟨by decide +kernel, by decide +kernel⟩, rfl, by decide⟩
abbrev m_mo_parseInstruction : zMe := ("StatuteConsolidatorModel", ⟨"StatuteConsolidatorModel", "parseInstruction", "(I)V"⟩, prog_10_method_33_code, 3, none, 0, 0)
theorem mk_mo_parseInstruction : zMk m_mo_parseInstruction := ⟨zG_of 1047 (by decide +kernel) rfl, zG_of 8 (by decide +kernel) rfl, by decide +kernel, ⟨by decide +kernel, by decide +kernel⟩, rfl, by decide⟩
abbrev m_mo_parseKeyword : zMe := ("StatuteConsolidatorModel", ⟨"StatuteConsolidatorModel", "parseKeyword", "()I"⟩, prog_10_method_31_code, 8, (some (.int : FieldType)), 0, 0)
theorem mk_mo_parseKeyword : zMk m_mo_parseKeyword := ⟨zG_of 1051 (by decide +kernel) rfl, zG_of 8 (by decide +kernel) rfl, by decide +kernel, ⟨by decide +kernel, by decide +kernel⟩, rfl, by decide⟩
abbrev m_mo_keyword : zMe := ("StatuteConsolidatorModel", ⟨"StatuteConsolidatorModel", "keyword", "(I)Ljava/lang/String;"⟩, prog_10_method_30_code, 1, (some ((.object "java/lang/String") : FieldType)), 0, 0)
theorem mk_mo_keyword : zMk m_mo_keyword := ⟨zG_of 1054 (by decide +kernel) rfl, zG_of 8 (by decide +kernel) rfl, by decide +kernel, ⟨by decide +kernel, by decide +kernel⟩, rfl, by decide⟩
abbrev m_mo_parsePath : zMe := ("StatuteConsolidatorModel", ⟨"StatuteConsolidatorModel", "parsePath", "([II)V"⟩, prog_10_method_29_code, 4, none, 0, 0)
theorem mk_mo_parsePath : zMk m_mo_parsePath := ⟨zG_of 1066 (by decide +kernel) rfl, zG_of 8 (by decide +kernel) rfl, by decide +kernel, ⟨by decide +kernel, by decide +kernel⟩, rfl, by decide⟩
abbrev m_mo_parseLabel : zMe := ("StatuteConsolidatorModel", ⟨"StatuteConsolidatorModel", "parseLabel", "()I"⟩, prog_10_method_28_code, 4, (some (.int : FieldType)), 0, 0)
theorem mk_mo_parseLabel : zMk m_mo_parseLabel := ⟨zG_of 1070 (by decide +kernel) rfl, zG_of 8 (by decide +kernel) rfl, by decide +kernel, ⟨by decide +kernel, by decide +kernel⟩, rfl, by decide⟩
abbrev m_mo_isNext : zMe := ("StatuteConsolidatorModel", ⟨"StatuteConsolidatorModel", "isNext", "(II)Z"⟩, prog_10_method_25_code, 3, (some (.boolean : FieldType)), 0, 0)
theorem mk_mo_isNext : zMk m_mo_isNext := ⟨zG_of 1074 (by decide +kernel) rfl, zG_of 8 (by decide +kernel) rfl, by decide +kernel, ⟨by decide +kernel, by decide +kernel⟩, rfl, by decide⟩
abbrev m_mo_accept : zMe := ("StatuteConsolidatorModel", ⟨"StatuteConsolidatorModel", "accept", "(I)Z"⟩, prog_10_method_26_code, 2, (some (.boolean : FieldType)), 0, 0)
theorem mk_mo_accept : zMk m_mo_accept := ⟨zG_of 1078 (by decide +kernel) rfl, zG_of 8 (by decide +kernel) rfl, by decide +kernel, ⟨by decide +kernel, by decide +kernel⟩, rfl, by decide⟩
abbrev m_mo_expect : zMe := ("StatuteConsolidatorModel", ⟨"StatuteConsolidatorModel", "expect", "(I)V"⟩, prog_10_method_27_code, 2, none, 0, 0)
theorem mk_mo_expect : zMk m_mo_expect := ⟨zG_of 1082 (by decide +kernel) rfl, zG_of 8 (by decide +kernel) rfl, by decide +kernel, ⟨by decide +kernel, by decide +kernel⟩, rfl, by decide⟩
abbrev m_mo_parseNumber : zMe := ("StatuteConsolidatorModel", ⟨"StatuteConsolidatorModel", "parseNumber", "()I"⟩, prog_10_method_32_code, 3, (some (.int : FieldType)), 0, 0)
theorem mk_mo_parseNumber : zMk m_mo_parseNumber := ⟨zG_of 1086 (by decide +kernel) rfl, zG_of 8 (by decide +kernel) rfl, by decide +kernel, ⟨by decide +kernel, by decide +kernel⟩, rfl, by decide⟩
abbrev m_mo_amendmentCount : zMe := ("StatuteConsolidatorModel", ⟨"StatuteConsolidatorModel", "amendmentCount", "()I"⟩, prog_10_method_37_code, 1, (some (.int : FieldType)), 0, 0)
theorem mk_mo_amendmentCount : zMk m_mo_amendmentCount := ⟨zG_of 1090 (by decide +kernel) rfl, zG_of 8 (by decide +kernel) rfl, by decide +kernel, ⟨by decide +kernel, by decide +kernel⟩, rfl, by decide⟩
abbrev m_mo_instructionCount : zMe := ("StatuteConsolidatorModel", ⟨"StatuteConsolidatorModel", "instructionCount", "(I)I"⟩, prog_10_method_38_code, 2, (some (.int : FieldType)), 0, 0)
theorem mk_mo_instructionCount : zMk m_mo_instructionCount := ⟨zG_of 1094 (by decide +kernel) rfl, zG_of 8 (by decide +kernel) rfl, by decide +kernel, ⟨by decide +kernel, by decide +kernel⟩, rfl, by decide⟩
abbrev m_mo_isAmendment : zMe := ("StatuteConsolidatorModel", ⟨"StatuteConsolidatorModel", "isAmendment", "(I)Z"⟩, prog_10_method_36_code, 2, (some (.boolean : FieldType)), 0, 0)
theorem mk_mo_isAmendment : zMk m_mo_isAmendment := ⟨zG_of 1098 (by decide +kernel) rfl, zG_of 8 (by decide +kernel) rfl, by decide +kernel, ⟨by decide +kernel, by decide +kernel⟩, rfl, by decide⟩
abbrev m_mo_setCommencement : zMe := ("StatuteConsolidatorModel", ⟨"StatuteConsolidatorModel", "setCommencement", "(II)I"⟩, prog_10_method_39_code, 4, (some (.int : FieldType)), 0, 0)
theorem mk_mo_setCommencement : zMk m_mo_setCommencement := ⟨zG_of 1102 (by decide +kernel) rfl, zG_of 8 (by decide +kernel) rfl, by decide +kernel, ⟨by decide +kernel, by decide +kernel⟩, rfl, by decide⟩
abbrev m_mo_removeLastAmendment : zMe := ("StatuteConsolidatorModel", ⟨"StatuteConsolidatorModel", "removeLastAmendment", "()I"⟩, prog_10_method_40_code, 1, (some (.int : FieldType)), 0, 0)
theorem mk_mo_removeLastAmendment : zMk m_mo_removeLastAmendment := ⟨zG_of 1106 (by decide +kernel) rfl, zG_of 8 (by decide +kernel) rfl, by decide +kernel, ⟨by decide +kernel, by decide +kernel⟩, rfl, by decide⟩
abbrev m_mo_provisionCount : zMe := ("StatuteConsolidatorModel", ⟨"StatuteConsolidatorModel", "provisionCount", "(I)I"⟩, prog_10_method_52_code, 2, (some (.int : FieldType)), 0, 0)
theorem mk_mo_provisionCount : zMk m_mo_provisionCount := ⟨zG_of 1110 (by decide +kernel) rfl, zG_of 8 (by decide +kernel) rfl, by decide +kernel, ⟨by decide +kernel, by decide +kernel⟩, rfl, by decide⟩
abbrev m_mo_compute : zMe := ("StatuteConsolidatorModel", ⟨"StatuteConsolidatorModel", "compute", "(I)Z"⟩, prog_10_method_49_code, 4, (some (.boolean : FieldType)), 0, 0)
theorem mk_mo_compute : zMk m_mo_compute := ⟨zG_of 1114 (by decide +kernel) rfl, zG_of 8 (by decide +kernel) rfl, by decide +kernel, ⟨by decide +kernel, by decide +kernel⟩, rfl, by decide⟩
abbrev m_mo_nextDay : zMe := ("StatuteConsolidatorModel", ⟨"StatuteConsolidatorModel", "nextDay", "(II)I"⟩, prog_10_method_50_code, 6, (some (.int : FieldType)), 0, 0)
theorem mk_mo_nextDay : zMk m_mo_nextDay := ⟨zG_of 1118 (by decide +kernel) rfl, zG_of 8 (by decide +kernel) rfl, by decide +kernel, ⟨by decide +kernel, by decide +kernel⟩, rfl, by decide⟩
abbrev m_mo_applyAmendment : zMe := ("StatuteConsolidatorModel", ⟨"StatuteConsolidatorModel", "applyAmendment", "(I)V"⟩, prog_10_method_48_code, 4, none, 0, 0)
theorem mk_mo_applyAmendment : zMk m_mo_applyAmendment := ⟨zG_of 1122 (by decide +kernel) rfl, zG_of 8 (by decide +kernel) rfl, by decide +kernel, ⟨by decide +kernel, by decide +kernel⟩, rfl, by decide⟩
abbrev m_mo_apply : zMe := ("StatuteConsolidatorModel", ⟨"StatuteConsolidatorModel", "apply", "(II)I"⟩, prog_10_method_46_code, 8, (some (.int : FieldType)), 0, 0)
theorem mk_mo_apply : zMk m_mo_apply := ⟨zG_of 1126 (by decide +kernel) rfl, zG_of 8 (by decide +kernel) rfl, by decide +kernel, ⟨by decide +kernel, by decide +kernel⟩, rfl, by decide⟩
abbrev m_mo_lookUp : zMe := ("StatuteConsolidatorModel", ⟨"StatuteConsolidatorModel", "lookUp", "([II)I"⟩, prog_10_method_41_code, 6, (some (.int : FieldType)), 0, 0)
theorem mk_mo_lookUp : zMk m_mo_lookUp := ⟨zG_of 1130 (by decide +kernel) rfl, zG_of 8 (by decide +kernel) rfl, by decide +kernel, ⟨by decide +kernel, by decide +kernel⟩, rfl, by decide⟩
abbrev m_mo_repeal : zMe := ("StatuteConsolidatorModel", ⟨"StatuteConsolidatorModel", "repeal", "(I)V"⟩, prog_10_method_43_code, 3, none, 0, 0)
theorem mk_mo_repeal : zMk m_mo_repeal := ⟨zG_of 1134 (by decide +kernel) rfl, zG_of 8 (by decide +kernel) rfl, by decide +kernel, ⟨by decide +kernel, by decide +kernel⟩, rfl, by decide⟩
abbrev m_mo_isBelow : zMe := ("StatuteConsolidatorModel", ⟨"StatuteConsolidatorModel", "isBelow", "(II)Z"⟩, prog_10_method_42_code, 4, (some (.boolean : FieldType)), 0, 0)
theorem mk_mo_isBelow : zMk m_mo_isBelow := ⟨zG_of 1138 (by decide +kernel) rfl, zG_of 8 (by decide +kernel) rfl, by decide +kernel, ⟨by decide +kernel, by decide +kernel⟩, rfl, by decide⟩
abbrev m_mo_renumber : zMe := ("StatuteConsolidatorModel", ⟨"StatuteConsolidatorModel", "renumber", "(I)V"⟩, prog_10_method_44_code, 4, none, 0, 0)
theorem mk_mo_renumber : zMk m_mo_renumber := ⟨zG_of 1142 (by decide +kernel) rfl, zG_of 8 (by decide +kernel) rfl, by decide +kernel, ⟨by decide +kernel, by decide +kernel⟩, rfl, by decide⟩
abbrev m_mo_remove : zMe := ("StatuteConsolidatorModel", ⟨"StatuteConsolidatorModel", "remove", "(I)V"⟩, prog_10_method_45_code, 3, none, 0, 0)
theorem mk_mo_remove : zMk m_mo_remove := ⟨zG_of 1146 (by decide +kernel) rfl, zG_of 8 (by decide +kernel) rfl, by decide +kernel, ⟨by decide +kernel, by decide +kernel⟩, rfl, by decide⟩
abbrev m_mo_move : zMe := ("StatuteConsolidatorModel", ⟨"StatuteConsolidatorModel", "move", "(II)I"⟩, prog_10_method_47_code, 4, (some (.int : FieldType)), 0, 0)
theorem mk_mo_move : zMk m_mo_move := ⟨zG_of 1150 (by decide +kernel) rfl, zG_of 8 (by decide +kernel) rfl, by decide +kernel, ⟨by decide +kernel, by decide +kernel⟩, rfl, by decide⟩
abbrev m_mo_orderVersion : zMe := ("StatuteConsolidatorModel", ⟨"StatuteConsolidatorModel", "orderVersion", "()V"⟩, prog_10_method_9_code, 1, none, 0, 0)
theorem mk_mo_orderVersion : zMk m_mo_orderVersion := ⟨zG_of 1154 (by decide +kernel) rfl, zG_of 8 (by decide +kernel) rfl, by decide +kernel, ⟨by decide +kernel, by decide +kernel⟩, rfl, by decide⟩
abbrev m_mo_orderChildren : zMe := ("StatuteConsolidatorModel", ⟨"StatuteConsolidatorModel", "orderChildren", "(I)V"⟩, prog_10_method_8_code, 3, none, 0, 0)
theorem mk_mo_orderChildren : zMk m_mo_orderChildren := ⟨zG_of 1158 (by decide +kernel) rfl, zG_of 8 (by decide +kernel) rfl, by decide +kernel, ⟨by decide +kernel, by decide +kernel⟩, rfl, by decide⟩
abbrev m_mo_levelAt : zMe := ("StatuteConsolidatorModel", ⟨"StatuteConsolidatorModel", "levelAt", "(II)I"⟩, prog_10_method_53_code, 4, (some (.int : FieldType)), 0, 0)
theorem mk_mo_levelAt : zMk m_mo_levelAt := ⟨zG_of 1162 (by decide +kernel) rfl, zG_of 8 (by decide +kernel) rfl, by decide +kernel, ⟨by decide +kernel, by decide +kernel⟩, rfl, by decide⟩
abbrev m_mo_reach : zMe := ("StatuteConsolidatorModel", ⟨"StatuteConsolidatorModel", "reach", "(II)I"⟩, prog_10_method_51_code, 3, (some (.int : FieldType)), 0, 0)
theorem mk_mo_reach : zMk m_mo_reach := ⟨zG_of 1166 (by decide +kernel) rfl, zG_of 8 (by decide +kernel) rfl, by decide +kernel, ⟨by decide +kernel, by decide +kernel⟩, rfl, by decide⟩
abbrev m_mo_textAt : zMe := ("StatuteConsolidatorModel", ⟨"StatuteConsolidatorModel", "textAt", "(II)I"⟩, prog_10_method_54_code, 4, (some (.int : FieldType)), 0, 0)
theorem mk_mo_textAt : zMk m_mo_textAt := ⟨zG_of 1170 (by decide +kernel) rfl, zG_of 8 (by decide +kernel) rfl, by decide +kernel, ⟨by decide +kernel, by decide +kernel⟩, rfl, by decide⟩
abbrev m_mo_isRepealedAt : zMe := ("StatuteConsolidatorModel", ⟨"StatuteConsolidatorModel", "isRepealedAt", "(II)I"⟩, prog_10_method_55_code, 4, (some (.int : FieldType)), 0, 0)
theorem mk_mo_isRepealedAt : zMk m_mo_isRepealedAt := ⟨zG_of 1174 (by decide +kernel) rfl, zG_of 8 (by decide +kernel) rfl, by decide +kernel, ⟨by decide +kernel, by decide +kernel⟩, rfl, by decide⟩
abbrev m_mo_pathLengthAt : zMe := ("StatuteConsolidatorModel", ⟨"StatuteConsolidatorModel", "pathLengthAt", "(II)I"⟩, prog_10_method_59_code, 4, (some (.int : FieldType)), 0, 0)
theorem mk_mo_pathLengthAt : zMk m_mo_pathLengthAt := ⟨zG_of 1178 (by decide +kernel) rfl, zG_of 8 (by decide +kernel) rfl, by decide +kernel, ⟨by decide +kernel, by decide +kernel⟩, rfl, by decide⟩
abbrev m_mo_writePath : zMe := ("StatuteConsolidatorModel", ⟨"StatuteConsolidatorModel", "writePath", "(I)V"⟩, prog_10_method_58_code, 2, none, 0, 0)
theorem mk_mo_writePath : zMk m_mo_writePath := ⟨zG_of 1182 (by decide +kernel) rfl, zG_of 8 (by decide +kernel) rfl, by decide +kernel, ⟨by decide +kernel, by decide +kernel⟩, rfl, by decide⟩
abbrev m_mo_writeLabel : zMe := ("StatuteConsolidatorModel", ⟨"StatuteConsolidatorModel", "writeLabel", "(I)V"⟩, prog_10_method_57_code, 5, none, 0, 0)
theorem mk_mo_writeLabel : zMk m_mo_writeLabel := ⟨zG_of 1186 (by decide +kernel) rfl, zG_of 8 (by decide +kernel) rfl, by decide +kernel, ⟨by decide +kernel, by decide +kernel⟩, rfl, by decide⟩
abbrev m_mo_write : zMe := ("StatuteConsolidatorModel", ⟨"StatuteConsolidatorModel", "write", "(I)V"⟩, prog_10_method_56_code, 2, none, 0, 0)
theorem mk_mo_write : zMk m_mo_write := ⟨zG_of 1190 (by decide +kernel) rfl, zG_of 8 (by decide +kernel) rfl, by decide +kernel, ⟨by decide +kernel, by decide +kernel⟩, rfl, by decide⟩
abbrev m_mo_pathCharacterAt : zMe := ("StatuteConsolidatorModel", ⟨"StatuteConsolidatorModel", "pathCharacterAt", "(III)I"⟩, prog_10_method_60_code, 5, (some (.int : FieldType)), 0, 0)
theorem mk_mo_pathCharacterAt : zMk m_mo_pathCharacterAt := ⟨zG_of 1194 (by decide +kernel) rfl, zG_of 8 (by decide +kernel) rfl, by decide +kernel, ⟨by decide +kernel, by decide +kernel⟩, rfl, by decide⟩
abbrev m_mo_originAt : zMe := ("StatuteConsolidatorModel", ⟨"StatuteConsolidatorModel", "originAt", "(II)I"⟩, prog_10_method_61_code, 4, (some (.int : FieldType)), 0, 0)
theorem mk_mo_originAt : zMk m_mo_originAt := ⟨zG_of 1198 (by decide +kernel) rfl, zG_of 8 (by decide +kernel) rfl, by decide +kernel, ⟨by decide +kernel, by decide +kernel⟩, rfl, by decide⟩
abbrev m_mo_creatorAt : zMe := ("StatuteConsolidatorModel", ⟨"StatuteConsolidatorModel", "creatorAt", "(II)I"⟩, prog_10_method_62_code, 4, (some (.int : FieldType)), 0, 0)
theorem mk_mo_creatorAt : zMk m_mo_creatorAt := ⟨zG_of 1202 (by decide +kernel) rfl, zG_of 8 (by decide +kernel) rfl, by decide +kernel, ⟨by decide +kernel, by decide +kernel⟩, rfl, by decide⟩
abbrev m_mo_find : zMe := ("StatuteConsolidatorModel", ⟨"StatuteConsolidatorModel", "find", "(I)I"⟩, prog_10_method_64_code, 5, (some (.int : FieldType)), 0, 0)
theorem mk_mo_find : zMk m_mo_find := ⟨zG_of 1206 (by decide +kernel) rfl, zG_of 8 (by decide +kernel) rfl, by decide +kernel, ⟨by decide +kernel, by decide +kernel⟩, rfl, by decide⟩
abbrev m_mo_positionOf : zMe := ("StatuteConsolidatorModel", ⟨"StatuteConsolidatorModel", "positionOf", "(I)I"⟩, prog_10_method_63_code, 3, (some (.int : FieldType)), 0, 0)
theorem mk_mo_positionOf : zMk m_mo_positionOf := ⟨zG_of 1210 (by decide +kernel) rfl, zG_of 8 (by decide +kernel) rfl, by decide +kernel, ⟨by decide +kernel, by decide +kernel⟩, rfl, by decide⟩
abbrev m_mo_firstDifference : zMe := ("StatuteConsolidatorModel", ⟨"StatuteConsolidatorModel", "firstDifference", "(II)I"⟩, prog_10_method_69_code, 3, (some (.int : FieldType)), 0, 0)
theorem mk_mo_firstDifference : zMk m_mo_firstDifference := ⟨zG_of 1214 (by decide +kernel) rfl, zG_of 8 (by decide +kernel) rfl, by decide +kernel, ⟨by decide +kernel, by decide +kernel⟩, rfl, by decide⟩
abbrev m_mo_keep : zMe := ("StatuteConsolidatorModel", ⟨"StatuteConsolidatorModel", "keep", "()V"⟩, prog_10_method_66_code, 4, none, 0, 0)
theorem mk_mo_keep : zMk m_mo_keep := ⟨zG_of 1218 (by decide +kernel) rfl, zG_of 8 (by decide +kernel) rfl, by decide +kernel, ⟨by decide +kernel, by decide +kernel⟩, rfl, by decide⟩
abbrev m_mo_labelAt : zMe := ("StatuteConsolidatorModel", ⟨"StatuteConsolidatorModel", "labelAt", "(II)I"⟩, prog_10_method_65_code, 4, (some (.int : FieldType)), 0, 0)
theorem mk_mo_labelAt : zMk m_mo_labelAt := ⟨zG_of 1222 (by decide +kernel) rfl, zG_of 8 (by decide +kernel) rfl, by decide +kernel, ⟨by decide +kernel, by decide +kernel⟩, rfl, by decide⟩
abbrev m_mo_firstUnlike : zMe := ("StatuteConsolidatorModel", ⟨"StatuteConsolidatorModel", "firstUnlike", "(Z)I"⟩, prog_10_method_68_code, 3, (some (.int : FieldType)), 0, 0)
theorem mk_mo_firstUnlike : zMk m_mo_firstUnlike := ⟨zG_of 1226 (by decide +kernel) rfl, zG_of 8 (by decide +kernel) rfl, by decide +kernel, ⟨by decide +kernel, by decide +kernel⟩, rfl, by decide⟩
abbrev m_mo_isKept : zMe := ("StatuteConsolidatorModel", ⟨"StatuteConsolidatorModel", "isKept", "(IZ)Z"⟩, prog_10_method_67_code, 6, (some (.boolean : FieldType)), 0, 0)
theorem mk_mo_isKept : zMk m_mo_isKept := ⟨zG_of 1230 (by decide +kernel) rfl, zG_of 8 (by decide +kernel) rfl, by decide +kernel, ⟨by decide +kernel, by decide +kernel⟩, rfl, by decide⟩
abbrev m_mo_doCommute : zMe := ("StatuteConsolidatorModel", ⟨"StatuteConsolidatorModel", "doCommute", "(II)I"⟩, prog_10_method_70_code, 3, (some (.int : FieldType)), 0, 0)
theorem mk_mo_doCommute : zMk m_mo_doCommute := ⟨zG_of 1234 (by decide +kernel) rfl, zG_of 8 (by decide +kernel) rfl, by decide +kernel, ⟨by decide +kernel, by decide +kernel⟩, rfl, by decide⟩
abbrev m_mo_referenceCountAt : zMe := ("StatuteConsolidatorModel", ⟨"StatuteConsolidatorModel", "referenceCountAt", "(II)I"⟩, prog_10_method_73_code, 4, (some (.int : FieldType)), 0, 0)
theorem mk_mo_referenceCountAt : zMk m_mo_referenceCountAt := ⟨zG_of 1238 (by decide +kernel) rfl, zG_of 8 (by decide +kernel) rfl, by decide +kernel, ⟨by decide +kernel, by decide +kernel⟩, rfl, by decide⟩
abbrev m_mo_referencesOf : zMe := ("StatuteConsolidatorModel", ⟨"StatuteConsolidatorModel", "referencesOf", "(I)I"⟩, prog_10_method_72_code, 2, (some (.int : FieldType)), 0, 0)
theorem mk_mo_referencesOf : zMk m_mo_referencesOf := ⟨zG_of 1242 (by decide +kernel) rfl, zG_of 8 (by decide +kernel) rfl, by decide +kernel, ⟨by decide +kernel, by decide +kernel⟩, rfl, by decide⟩
abbrev m_mo_referenceAt : zMe := ("StatuteConsolidatorModel", ⟨"StatuteConsolidatorModel", "referenceAt", "(III)I"⟩, prog_10_method_74_code, 7, (some (.int : FieldType)), 0, 0)
theorem mk_mo_referenceAt : zMk m_mo_referenceAt := ⟨zG_of 1246 (by decide +kernel) rfl, zG_of 8 (by decide +kernel) rfl, by decide +kernel, ⟨by decide +kernel, by decide +kernel⟩, rfl, by decide⟩
abbrev m_mo_isDangling : zMe := ("StatuteConsolidatorModel", ⟨"StatuteConsolidatorModel", "isDangling", "(I)Z"⟩, prog_10_method_71_code, 2, (some (.boolean : FieldType)), 0, 0)
theorem mk_mo_isDangling : zMk m_mo_isDangling := ⟨zG_of 1250 (by decide +kernel) rfl, zG_of 8 (by decide +kernel) rfl, by decide +kernel, ⟨by decide +kernel, by decide +kernel⟩, rfl, by decide⟩
abbrev m_mo_danglingCount : zMe := ("StatuteConsolidatorModel", ⟨"StatuteConsolidatorModel", "danglingCount", "(I)I"⟩, prog_10_method_75_code, 5, (some (.int : FieldType)), 0, 0)
theorem mk_mo_danglingCount : zMk m_mo_danglingCount := ⟨zG_of 1254 (by decide +kernel) rfl, zG_of 8 (by decide +kernel) rfl, by decide +kernel, ⟨by decide +kernel, by decide +kernel⟩, rfl, by decide⟩
abbrev m_mo_conflictCount : zMe := ("StatuteConsolidatorModel", ⟨"StatuteConsolidatorModel", "conflictCount", "(I)I"⟩, prog_10_method_76_code, 2, (some (.int : FieldType)), 0, 0)
theorem mk_mo_conflictCount : zMk m_mo_conflictCount := ⟨zG_of 1258 (by decide +kernel) rfl, zG_of 8 (by decide +kernel) rfl, by decide +kernel, ⟨by decide +kernel, by decide +kernel⟩, rfl, by decide⟩
abbrev m_mo_conflictAmendment : zMe := ("StatuteConsolidatorModel", ⟨"StatuteConsolidatorModel", "conflictAmendment", "(II)I"⟩, prog_10_method_78_code, 4, (some (.int : FieldType)), 0, 0)
theorem mk_mo_conflictAmendment : zMk m_mo_conflictAmendment := ⟨zG_of 1262 (by decide +kernel) rfl, zG_of 8 (by decide +kernel) rfl, by decide +kernel, ⟨by decide +kernel, by decide +kernel⟩, rfl, by decide⟩
abbrev m_mo_reachConflict : zMe := ("StatuteConsolidatorModel", ⟨"StatuteConsolidatorModel", "reachConflict", "(II)I"⟩, prog_10_method_77_code, 3, (some (.int : FieldType)), 0, 0)
theorem mk_mo_reachConflict : zMk m_mo_reachConflict := ⟨zG_of 1266 (by decide +kernel) rfl, zG_of 8 (by decide +kernel) rfl, by decide +kernel, ⟨by decide +kernel, by decide +kernel⟩, rfl, by decide⟩
abbrev m_mo_conflictInstruction : zMe := ("StatuteConsolidatorModel", ⟨"StatuteConsolidatorModel", "conflictInstruction", "(II)I"⟩, prog_10_method_79_code, 4, (some (.int : FieldType)), 0, 0)
theorem mk_mo_conflictInstruction : zMk m_mo_conflictInstruction := ⟨zG_of 1270 (by decide +kernel) rfl, zG_of 8 (by decide +kernel) rfl, by decide +kernel, ⟨by decide +kernel, by decide +kernel⟩, rfl, by decide⟩
abbrev m_mo_conflictReason : zMe := ("StatuteConsolidatorModel", ⟨"StatuteConsolidatorModel", "conflictReason", "(II)I"⟩, prog_10_method_80_code, 4, (some (.int : FieldType)), 0, 0)
theorem mk_mo_conflictReason : zMk m_mo_conflictReason := ⟨zG_of 1274 (by decide +kernel) rfl, zG_of 8 (by decide +kernel) rfl, by decide +kernel, ⟨by decide +kernel, by decide +kernel⟩, rfl, by decide⟩
abbrev m_mo_averageLevel : zMe := ("StatuteConsolidatorModel", ⟨"StatuteConsolidatorModel", "averageLevel", "(I)I"⟩, prog_10_method_81_code, 5, (some (.int : FieldType)), 0, 0)
theorem mk_mo_averageLevel : zMk m_mo_averageLevel := ⟨zG_of 1278 (by decide +kernel) rfl, zG_of 8 (by decide +kernel) rfl, by decide +kernel, ⟨by decide +kernel, by decide +kernel⟩, rfl, by decide⟩
abbrev m_jf_floatToIntBits : zMe := ("java/lang/Float", ⟨"java/lang/Float", "floatToIntBits", "(F)I"⟩, prog_12_method_24_code, 1, (some (.int : FieldType)), 0, 0)
theorem mk_jf_floatToIntBits : zMk m_jf_floatToIntBits := ⟨zG_of 1281 (by decide +kernel) rfl, zG_of 15 (by decide +kernel) rfl, by decide +kernel, ⟨by decide +kernel, by decide +kernel⟩, rfl, by decide⟩
abbrev m_jf_isNaN : zMe := ("java/lang/Float", ⟨"java/lang/Float", "isNaN", "(F)Z"⟩, prog_12_method_6_code, 1, (some (.boolean : FieldType)), 0, 0)
theorem mk_jf_isNaN : zMk m_jf_isNaN := ⟨zG_of 1284 (by decide +kernel) rfl, zG_of 15 (by decide +kernel) rfl, by decide +kernel, ⟨by decide +kernel, by decide +kernel⟩, rfl, by decide⟩
abbrev m_mo_repealedShare : zMe := ("StatuteConsolidatorModel", ⟨"StatuteConsolidatorModel", "repealedShare", "(I)J"⟩, prog_10_method_82_code, 4, (some (.long : FieldType)), 0, 0)
theorem mk_mo_repealedShare : zMk m_mo_repealedShare := ⟨zG_of 1292 (by decide +kernel) rfl, zG_of 8 (by decide +kernel) rfl, by decide +kernel, ⟨by decide +kernel, by decide +kernel⟩, rfl, by decide⟩
abbrev m_jd_doubleToLongBits : zMe := ("java/lang/Double", ⟨"java/lang/Double", "doubleToLongBits", "(D)J"⟩, prog_11_method_23_code, 2, (some (.long : FieldType)), 0, 0)
theorem mk_jd_doubleToLongBits : zMk m_jd_doubleToLongBits := ⟨zG_of 1296 (by decide +kernel) rfl, zG_of 16 (by decide +kernel) rfl, by decide +kernel, ⟨by decide +kernel, by decide +kernel⟩, rfl, by decide⟩
abbrev m_jd_isNaN : zMe := ("java/lang/Double", ⟨"java/lang/Double", "isNaN", "(D)Z"⟩, prog_11_method_6_code, 2, (some (.boolean : FieldType)), 0, 0)
theorem mk_jd_isNaN : zMk m_jd_isNaN := ⟨zG_of 1299 (by decide +kernel) rfl, zG_of 16 (by decide +kernel) rfl, by decide +kernel, ⟨by decide +kernel, by decide +kernel⟩, rfl, by decide⟩
abbrev m_mo_newShelf : zMe := ("StatuteConsolidatorModel", ⟨"StatuteConsolidatorModel", "newShelf", "(III)I"⟩, prog_10_method_86_code, 5, (some (.int : FieldType)), 0, 0)
theorem mk_mo_newShelf : zMk m_mo_newShelf := ⟨zG_of 1307 (by decide +kernel) rfl, zG_of 8 (by decide +kernel) rfl, by decide +kernel, ⟨by decide +kernel, by decide +kernel⟩, rfl, by decide⟩
abbrev m_mo_isShelf : zMe := ("StatuteConsolidatorModel", ⟨"StatuteConsolidatorModel", "isShelf", "(I)Z"⟩, prog_10_method_85_code, 1, (some (.boolean : FieldType)), 0, 0)
theorem mk_mo_isShelf : zMk m_mo_isShelf := ⟨zG_of 1310 (by decide +kernel) rfl, zG_of 8 (by decide +kernel) rfl, by decide +kernel, ⟨by decide +kernel, by decide +kernel⟩, rfl, by decide⟩
abbrev m_mo_place : zMe := ("StatuteConsolidatorModel", ⟨"StatuteConsolidatorModel", "place", "(III)I"⟩, prog_10_method_87_code, 4, (some (.int : FieldType)), 0, 0)
theorem mk_mo_place : zMk m_mo_place := ⟨zG_of 1314 (by decide +kernel) rfl, zG_of 8 (by decide +kernel) rfl, by decide +kernel, ⟨by decide +kernel, by decide +kernel⟩, rfl, by decide⟩
abbrev m_mo_shelved : zMe := ("StatuteConsolidatorModel", ⟨"StatuteConsolidatorModel", "shelved", "(II)I"⟩, prog_10_method_88_code, 4, (some (.int : FieldType)), 0, 0)
theorem mk_mo_shelved : zMk m_mo_shelved := ⟨zG_of 1318 (by decide +kernel) rfl, zG_of 8 (by decide +kernel) rfl, by decide +kernel, ⟨by decide +kernel, by decide +kernel⟩, rfl, by decide⟩
abbrev m_mo_copyShelf : zMe := ("StatuteConsolidatorModel", ⟨"StatuteConsolidatorModel", "copyShelf", "(II)I"⟩, prog_10_method_89_code, 3, (some (.int : FieldType)), 0, 0)
theorem mk_mo_copyShelf : zMk m_mo_copyShelf := ⟨zG_of 1322 (by decide +kernel) rfl, zG_of 8 (by decide +kernel) rfl, by decide +kernel, ⟨by decide +kernel, by decide +kernel⟩, rfl, by decide⟩
abbrev m_mo_saveSnapshot : zMe := ("StatuteConsolidatorModel", ⟨"StatuteConsolidatorModel", "saveSnapshot", "()I"⟩, prog_10_method_92_code, 1, (some (.int : FieldType)), 0, 0)
theorem mk_mo_saveSnapshot : zMk m_mo_saveSnapshot := ⟨zG_of 1327 (by decide +kernel) rfl, zG_of 8 (by decide +kernel) rfl, by decide +kernel, ⟨by decide +kernel, by decide +kernel⟩, rfl, by decide⟩
abbrev m_mo_exchangeAll : zMe := ("StatuteConsolidatorModel", ⟨"StatuteConsolidatorModel", "exchangeAll", "(Z)V"⟩, prog_10_method_91_code, 2, none, 0, 0)
theorem mk_mo_exchangeAll : zMk m_mo_exchangeAll := ⟨zG_of 1331 (by decide +kernel) rfl, zG_of 8 (by decide +kernel) rfl, by decide +kernel, ⟨by decide +kernel, by decide +kernel⟩, rfl, by decide⟩
abbrev m_mo_exchange : zMe := ("StatuteConsolidatorModel", ⟨"StatuteConsolidatorModel", "exchange", "([I[IZ)V"⟩, prog_10_method_90_code, 3, none, 0, 0)
theorem mk_mo_exchange : zMk m_mo_exchange := ⟨zG_of 1334 (by decide +kernel) rfl, zG_of 8 (by decide +kernel) rfl, by decide +kernel, ⟨by decide +kernel, by decide +kernel⟩, rfl, by decide⟩
abbrev m_mo_restoreSnapshot : zMe := ("StatuteConsolidatorModel", ⟨"StatuteConsolidatorModel", "restoreSnapshot", "()I"⟩, prog_10_method_93_code, 1, (some (.int : FieldType)), 0, 0)
theorem mk_mo_restoreSnapshot : zMk m_mo_restoreSnapshot := ⟨zG_of 1338 (by decide +kernel) rfl, zG_of 8 (by decide +kernel) rfl, by decide +kernel, ⟨by decide +kernel, by decide +kernel⟩, rfl, by decide⟩
abbrev m_law : zMe := ("StatuteConsolidatorLaw", ⟨"StatuteConsolidatorLaw", "law", "([I)Z"⟩, code, 4, some (.boolean : FieldType), 0, 0)
theorem ck_am : zCk 0 := by
  intro C T N h
  cases h
  exact ⟨zG_list [99, 101, 103, 105, 107, 109, 111] (by decide +kernel) (by decide +kernel), by decide +kernel, by decide +kernel, by decide +kernel, zG_of 74 (by decide +kernel) rfl, zG_of 4 (by decide +kernel) rfl⟩
theorem ck_inp : zCk 1 := by
  intro C T N h
  cases h
  exact ⟨zG_list [145, 147, 149] (by decide +kernel) (by decide +kernel), by decide +kernel, by decide +kernel, by decide +kernel, zG_of 134 (by decide +kernel) rfl, zG_of 5 (by decide +kernel) rfl⟩
theorem ck_pv : zCk 2 := by
  intro C T N h
  cases h
  exact ⟨zG_list [55, 57, 59, 61, 63, 65] (by decide +kernel) (by decide +kernel), by decide +kernel, by decide +kernel, by decide +kernel, zG_of 33 (by decide +kernel) rfl, zG_of 3 (by decide +kernel) rfl⟩
theorem ck_sh : zCk 3 := by
  intro C T N h
  cases h
  exact ⟨zG_list [167, 169, 171, 173] (by decide +kernel) (by decide +kernel), by decide +kernel, by decide +kernel, by decide +kernel, zG_of 153 (by decide +kernel) rfl, zG_of 6 (by decide +kernel) rfl⟩
theorem ck_sta : zCk 4 := by
  intro C T N h
  cases h
  exact ⟨zG_list [124, 126, 128, 130] (by decide +kernel) (by decide +kernel), by decide +kernel, by decide +kernel, by decide +kernel, zG_of 27 (by decide +kernel) rfl, zG_of 2 (by decide +kernel) rfl⟩
theorem ck_ver : zCk 5 := by
  intro C T N h
  cases h
  exact ⟨zG_list [194, 196, 198, 200, 202] (by decide +kernel) (by decide +kernel), by decide +kernel, by decide +kernel, by decide +kernel, zG_of 177 (by decide +kernel) rfl, zG_of 7 (by decide +kernel) rfl⟩
theorem ck_sc : zCk 6 := by
  intro C T N h
  cases h
  exact ⟨zG_list [212, 214, 216, 218, 220, 222, 224] (by decide +kernel) (by decide +kernel), by decide +kernel, by decide +kernel, by decide +kernel, zG_of 19 (by decide +kernel) rfl, zG_of 1 (by decide +kernel) rfl⟩
theorem ck_mo : zCk 7 := by
  intro C T N h
  cases h
  exact ⟨zG_list [837, 839, 841, 843, 845, 847, 849, 851, 853, 855, 857, 859, 861, 863, 865, 867, 869, 871, 873, 875, 877, 879, 881, 883, 885, 887, 889, 891, 893, 895, 897, 899, 901, 903, 905, 907, 909, 911, 913, 915, 917, 919, 921, 923, 925, 927, 929, 931, 933, 935, 937, 939, 941, 943, 945, 947, 949] (by decide +kernel) (by decide +kernel), by decide +kernel, by decide +kernel, by decide +kernel, zG_of 772 (by decide +kernel) rfl, zG_of 8 (by decide +kernel) rfl⟩
end
section
/-! links -/
theorem lo_sc_3 : Cond.methodLink "StatuteConsolidator" 3 Lib.objectInit ∈ zG := zG_of 23 (by decide +kernel) rfl
theorem lm_sc_11 : zLi "StatuteConsolidator" 11 0 m_sta_init := ⟨⟨mk_sta_init, by decide +kernel, Or.inr ⟨"StatuteConsolidator", zN_of 28 (by decide +kernel) rfl⟩⟩, zG_of 29 (by decide +kernel) rfl, rfl, rfl⟩
theorem lf_sc_12 : zFl "StatuteConsolidator" 12 6 0 := ⟨ck_sc, _, _, _, rfl, by decide, Or.inl (zG_of 205 (by decide +kernel) rfl)⟩
theorem lf_sc_16 : zFl "StatuteConsolidator" 16 6 1 := ⟨ck_sc, _, _, _, rfl, by decide, Or.inl (zG_of 206 (by decide +kernel) rfl)⟩
theorem lf_sc_19 : zFl "StatuteConsolidator" 19 6 2 := ⟨ck_sc, _, _, _, rfl, by decide, Or.inl (zG_of 207 (by decide +kernel) rfl)⟩
theorem lm_sc_25 : zLi "StatuteConsolidator" 25 0 m_inp_init := ⟨⟨mk_inp_init, by decide +kernel, Or.inr ⟨"StatuteConsolidator", zN_of 135 (by decide +kernel) rfl⟩⟩, zG_of 136 (by decide +kernel) rfl, rfl, rfl⟩
theorem lf_sc_26 : zFl "StatuteConsolidator" 26 6 3 := ⟨ck_sc, _, _, _, rfl, by decide, Or.inl (zG_of 208 (by decide +kernel) rfl)⟩
theorem lm_sc_32 : zLi "StatuteConsolidator" 32 0 m_sh_init := ⟨⟨mk_sh_init, by decide +kernel, Or.inr ⟨"StatuteConsolidator", zN_of 154 (by decide +kernel) rfl⟩⟩, zG_of 155 (by decide +kernel) rfl, rfl, rfl⟩
theorem lf_sc_33 : zFl "StatuteConsolidator" 33 6 4 := ⟨ck_sc, _, _, _, rfl, by decide, Or.inl (zG_of 209 (by decide +kernel) rfl)⟩
theorem lm_sc_39 : zLi "StatuteConsolidator" 39 0 m_ver_init := ⟨⟨mk_ver_init, by decide +kernel, Or.inr ⟨"StatuteConsolidator", zN_of 178 (by decide +kernel) rfl⟩⟩, zG_of 179 (by decide +kernel) rfl, rfl, rfl⟩
theorem lf_sc_40 : zFl "StatuteConsolidator" 40 6 5 := ⟨ck_sc, _, _, _, rfl, by decide, Or.inl (zG_of 210 (by decide +kernel) rfl)⟩
theorem lf_sc_44 : zFl "StatuteConsolidator" 44 6 6 := ⟨ck_sc, _, _, _, rfl, by decide, Or.inl (zG_of 211 (by decide +kernel) rfl)⟩
theorem lm_sc_47 : zLv "StatuteConsolidator" 47 1 m_sta_hasProvision := ⟨⟨mk_sta_hasProvision, by decide +kernel, Or.inr ⟨"StatuteConsolidator", zN_of 231 (by decide +kernel) rfl⟩⟩, zG_of 233 (by decide +kernel) rfl, zG_sel 0 (by decide +kernel) rfl⟩
theorem lm_sc_51 : zLt "StatuteConsolidator" 51 1 m_sc_isText := ⟨⟨mk_sc_isText, by decide +kernel, Or.inl (zG_of 235 (by decide +kernel) rfl)⟩, zG_of 236 (by decide +kernel) rfl⟩
theorem lm_sc_56 : zLv "StatuteConsolidator" 56 1 m_sta_pathOf := ⟨⟨mk_sta_pathOf, by decide +kernel, Or.inr ⟨"StatuteConsolidator", zN_of 238 (by decide +kernel) rfl⟩⟩, zG_of 240 (by decide +kernel) rfl, zG_sel 1 (by decide +kernel) rfl⟩
theorem lm_sc_60 : zLt "StatuteConsolidator" 60 1 m_pa_levelOf := ⟨⟨mk_pa_levelOf, by decide +kernel, Or.inr ⟨"StatuteConsolidator", zN_of 246 (by decide +kernel) rfl⟩⟩, zG_of 247 (by decide +kernel) rfl⟩
theorem lf_sc_64 : zFl "StatuteConsolidator" 64 4 0 := ⟨ck_sta, _, _, _, rfl, by decide, Or.inr ⟨"StatuteConsolidator", zN_of 115 (by decide +kernel) rfl⟩⟩
theorem lf_sc_68 : zFl "StatuteConsolidator" 68 2 0 := ⟨ck_pv, _, _, _, rfl, by decide, Or.inr ⟨"StatuteConsolidator", zN_of 39 (by decide +kernel) rfl⟩⟩
theorem lm_sc_74 : zLv "StatuteConsolidator" 74 1 m_pv_labelOfNewLastChild := ⟨⟨mk_pv_labelOfNewLastChild, by decide +kernel, Or.inr ⟨"StatuteConsolidator", zN_of 251 (by decide +kernel) rfl⟩⟩, zG_of 253 (by decide +kernel) rfl, zG_sel 3 (by decide +kernel) rfl⟩
theorem lm_sc_77 : zLt "StatuteConsolidator" 77 2 m_pa_childOf := ⟨⟨mk_pa_childOf, by decide +kernel, Or.inr ⟨"StatuteConsolidator", zN_of 273 (by decide +kernel) rfl⟩⟩, zG_of 274 (by decide +kernel) rfl⟩
theorem lm_sc_81 : zLv "StatuteConsolidator" 81 2 m_sta_createProvision := ⟨⟨mk_sta_createProvision, by decide +kernel, Or.inr ⟨"StatuteConsolidator", zN_of 281 (by decide +kernel) rfl⟩⟩, zG_of 283 (by decide +kernel) rfl, zG_sel 4 (by decide +kernel) rfl⟩
theorem lm_sc_85 : zLv "StatuteConsolidator" 85 2 m_pv_labelAfter := ⟨⟨mk_pv_labelAfter, by decide +kernel, Or.inr ⟨"StatuteConsolidator", zN_of 301 (by decide +kernel) rfl⟩⟩, zG_of 303 (by decide +kernel) rfl, zG_sel 8 (by decide +kernel) rfl⟩
theorem lm_sc_89 : zLt "StatuteConsolidator" 89 2 m_pa_siblingOf := ⟨⟨mk_pa_siblingOf, by decide +kernel, Or.inr ⟨"StatuteConsolidator", zN_of 311 (by decide +kernel) rfl⟩⟩, zG_of 312 (by decide +kernel) rfl⟩
theorem lm_sc_92 : zLv "StatuteConsolidator" 92 1 m_pv_positionOfOrigin := ⟨⟨mk_pv_positionOfOrigin, by decide +kernel, Or.inr ⟨"StatuteConsolidator", zN_of 318 (by decide +kernel) rfl⟩⟩, zG_of 244 (by decide +kernel) rfl, zG_sel 2 (by decide +kernel) rfl⟩
theorem lf_sc_96 : zFl "StatuteConsolidator" 96 2 2 := ⟨ck_pv, _, _, _, rfl, by decide, Or.inr ⟨"StatuteConsolidator", zN_of 46 (by decide +kernel) rfl⟩⟩
theorem lf_sc_100 : zFl "StatuteConsolidator" 100 4 1 := ⟨ck_sta, _, _, _, rfl, by decide, Or.inr ⟨"StatuteConsolidator", zN_of 118 (by decide +kernel) rfl⟩⟩
theorem lf_sc_103 : zFl "StatuteConsolidator" 103 4 2 := ⟨ck_sta, _, _, _, rfl, by decide, Or.inr ⟨"StatuteConsolidator", zN_of 120 (by decide +kernel) rfl⟩⟩
theorem lf_sc_107 : zFl "StatuteConsolidator" 107 4 3 := ⟨ck_sta, _, _, _, rfl, by decide, Or.inr ⟨"StatuteConsolidator", zN_of 123 (by decide +kernel) rfl⟩⟩
theorem lf_sc_111 : zFl "StatuteConsolidator" 111 0 0 := ⟨ck_am, _, _, _, rfl, by decide, Or.inr ⟨"StatuteConsolidator", zN_of 80 (by decide +kernel) rfl⟩⟩
theorem lm_sc_114 : zLv "StatuteConsolidator" 114 0 m_sh_emptyAll := ⟨⟨mk_sh_emptyAll, by decide +kernel, Or.inr ⟨"StatuteConsolidator", zN_of 327 (by decide +kernel) rfl⟩⟩, zG_of 329 (by decide +kernel) rfl, zG_sel 9 (by decide +kernel) rfl⟩
theorem lf_sc_117 : zFl "StatuteConsolidator" 117 1 1 := ⟨ck_inp, _, _, _, rfl, by decide, Or.inr ⟨"StatuteConsolidator", zN_of 142 (by decide +kernel) rfl⟩⟩
theorem lf_sc_120 : zFl "StatuteConsolidator" 120 1 0 := ⟨ck_inp, _, _, _, rfl, by decide, Or.inr ⟨"StatuteConsolidator", zN_of 140 (by decide +kernel) rfl⟩⟩
theorem lm_sc_123 : zLv "StatuteConsolidator" 123 1 m_sc_storeAmendment := ⟨⟨mk_sc_storeAmendment, by decide +kernel, Or.inl (zG_of 347 (by decide +kernel) rfl)⟩, zG_of 349 (by decide +kernel) rfl, zG_sel 10 (by decide +kernel) rfl⟩
theorem lm_sc_126 : zLv "StatuteConsolidator" 126 1 m_am_has := ⟨⟨mk_am_has, by decide +kernel, Or.inr ⟨"StatuteConsolidator", zN_of 468 (by decide +kernel) rfl⟩⟩, zG_of 470 (by decide +kernel) rfl, zG_sel 22 (by decide +kernel) rfl⟩
theorem lf_sc_129 : zFl "StatuteConsolidator" 129 0 2 := ⟨ck_am, _, _, _, rfl, by decide, Or.inr ⟨"StatuteConsolidator", zN_of 86 (by decide +kernel) rfl⟩⟩
theorem lm_sc_132 : zLt "StatuteConsolidator" 132 1 m_sc_isCommencementDay := ⟨⟨mk_sc_isCommencementDay, by decide +kernel, Or.inl (zG_of 351 (by decide +kernel) rfl)⟩, zG_of 352 (by decide +kernel) rfl⟩
theorem lf_sc_135 : zFl "StatuteConsolidator" 135 0 1 := ⟨ck_am, _, _, _, rfl, by decide, Or.inr ⟨"StatuteConsolidator", zN_of 83 (by decide +kernel) rfl⟩⟩
theorem lm_sc_138 : zLv "StatuteConsolidator" 138 2 m_ver_compute := ⟨⟨mk_ver_compute, by decide +kernel, Or.inr ⟨"StatuteConsolidator", zN_of 484 (by decide +kernel) rfl⟩⟩, zG_of 486 (by decide +kernel) rfl, zG_sel 23 (by decide +kernel) rfl⟩
theorem lf_sc_142 : zFl "StatuteConsolidator" 142 5 0 := ⟨ck_ver, _, _, _, rfl, by decide, Or.inr ⟨"StatuteConsolidator", zN_of 185 (by decide +kernel) rfl⟩⟩
theorem lm_sc_145 : zLv "StatuteConsolidator" 145 2 m_sc_refusalAt := ⟨⟨mk_sc_refusalAt, by decide +kernel, Or.inl (zG_of 571 (by decide +kernel) rfl)⟩, zG_of 573 (by decide +kernel) rfl, zG_sel 40 (by decide +kernel) rfl⟩
theorem lf_sc_149 : zFl "StatuteConsolidator" 149 2 1 := ⟨ck_pv, _, _, _, rfl, by decide, Or.inr ⟨"StatuteConsolidator", zN_of 44 (by decide +kernel) rfl⟩⟩
theorem lf_sc_153 : zFl "StatuteConsolidator" 153 2 3 := ⟨ck_pv, _, _, _, rfl, by decide, Or.inr ⟨"StatuteConsolidator", zN_of 50 (by decide +kernel) rfl⟩⟩
theorem lm_sc_157 : zLt "StatuteConsolidator" 157 1 m_pa_lengthOf := ⟨⟨mk_pa_lengthOf, by decide +kernel, Or.inr ⟨"StatuteConsolidator", zN_of 591 (by decide +kernel) rfl⟩⟩, zG_of 592 (by decide +kernel) rfl⟩
theorem lm_sc_160 : zLt "StatuteConsolidator" 160 2 m_pa_characterOf := ⟨⟨mk_pa_characterOf, by decide +kernel, Or.inr ⟨"StatuteConsolidator", zN_of 609 (by decide +kernel) rfl⟩⟩, zG_of 610 (by decide +kernel) rfl⟩
theorem lf_sc_163 : zFl "StatuteConsolidator" 163 2 4 := ⟨ck_pv, _, _, _, rfl, by decide, Or.inr ⟨"StatuteConsolidator", zN_of 52 (by decide +kernel) rfl⟩⟩
theorem lf_sc_166 : zFl "StatuteConsolidator" 166 2 5 := ⟨ck_pv, _, _, _, rfl, by decide, Or.inr ⟨"StatuteConsolidator", zN_of 54 (by decide +kernel) rfl⟩⟩
theorem lm_sc_169 : zLv "StatuteConsolidator" 169 0 m_inp_readOnlyPath := ⟨⟨mk_inp_readOnlyPath, by decide +kernel, Or.inr ⟨"StatuteConsolidator", zN_of 627 (by decide +kernel) rfl⟩⟩, zG_of 629 (by decide +kernel) rfl, zG_sel 42 (by decide +kernel) rfl⟩
theorem lf_sc_173 : zFl "StatuteConsolidator" 173 1 2 := ⟨ck_inp, _, _, _, rfl, by decide, Or.inr ⟨"StatuteConsolidator", zN_of 144 (by decide +kernel) rfl⟩⟩
theorem lm_sc_176 : zLv "StatuteConsolidator" 176 1 m_pv_positionOf := ⟨⟨mk_pv_positionOf, by decide +kernel, Or.inr ⟨"StatuteConsolidator", zN_of 631 (by decide +kernel) rfl⟩⟩, zG_of 515 (by decide +kernel) rfl, zG_sel 30 (by decide +kernel) rfl⟩
theorem lm_sc_179 : zLv "StatuteConsolidator" 179 1 m_pv_firstDifferenceFrom := ⟨⟨mk_pv_firstDifferenceFrom, by decide +kernel, Or.inr ⟨"StatuteConsolidator", zN_of 636 (by decide +kernel) rfl⟩⟩, zG_of 638 (by decide +kernel) rfl, zG_sel 43 (by decide +kernel) rfl⟩
theorem lm_sc_183 : zLv "StatuteConsolidator" 183 1 m_sta_referenceCountOf := ⟨⟨mk_sta_referenceCountOf, by decide +kernel, Or.inr ⟨"StatuteConsolidator", zN_of 648 (by decide +kernel) rfl⟩⟩, zG_of 650 (by decide +kernel) rfl, zG_sel 45 (by decide +kernel) rfl⟩
theorem lm_sc_186 : zLv "StatuteConsolidator" 186 1 m_pv_positionInForce := ⟨⟨mk_pv_positionInForce, by decide +kernel, Or.inr ⟨"StatuteConsolidator", zN_of 657 (by decide +kernel) rfl⟩⟩, zG_of 659 (by decide +kernel) rfl, zG_sel 46 (by decide +kernel) rfl⟩
theorem lm_sc_189 : zLv "StatuteConsolidator" 189 1 m_sc_danglingReferencesOf := ⟨⟨mk_sc_danglingReferencesOf, by decide +kernel, Or.inl (zG_of 666 (by decide +kernel) rfl)⟩, zG_of 668 (by decide +kernel) rfl, zG_sel 47 (by decide +kernel) rfl⟩
theorem lf_sc_192 : zFl "StatuteConsolidator" 192 5 1 := ⟨ck_ver, _, _, _, rfl, by decide, Or.inr ⟨"StatuteConsolidator", zN_of 187 (by decide +kernel) rfl⟩⟩
theorem lm_sc_195 : zLv "StatuteConsolidator" 195 1 m_ver_hasConflict := ⟨⟨mk_ver_hasConflict, by decide +kernel, Or.inr ⟨"StatuteConsolidator", zN_of 678 (by decide +kernel) rfl⟩⟩, zG_of 680 (by decide +kernel) rfl, zG_sel 48 (by decide +kernel) rfl⟩
theorem lf_sc_198 : zFl "StatuteConsolidator" 198 5 2 := ⟨ck_ver, _, _, _, rfl, by decide, Or.inr ⟨"StatuteConsolidator", zN_of 189 (by decide +kernel) rfl⟩⟩
theorem lf_sc_201 : zFl "StatuteConsolidator" 201 5 3 := ⟨ck_ver, _, _, _, rfl, by decide, Or.inr ⟨"StatuteConsolidator", zN_of 191 (by decide +kernel) rfl⟩⟩
theorem lf_sc_204 : zFl "StatuteConsolidator" 204 5 4 := ⟨ck_ver, _, _, _, rfl, by decide, Or.inr ⟨"StatuteConsolidator", zN_of 193 (by decide +kernel) rfl⟩⟩
theorem lm_sc_207 : zLv "StatuteConsolidator" 207 3 m_ver_computeFromTwo := ⟨⟨mk_ver_computeFromTwo, by decide +kernel, Or.inr ⟨"StatuteConsolidator", zN_of 694 (by decide +kernel) rfl⟩⟩, zG_of 696 (by decide +kernel) rfl, zG_sel 49 (by decide +kernel) rfl⟩
theorem lm_sc_211 : zLv "StatuteConsolidator" 211 1 m_pv_isSameResultAs := ⟨⟨mk_pv_isSameResultAs, by decide +kernel, Or.inr ⟨"StatuteConsolidator", zN_of 698 (by decide +kernel) rfl⟩⟩, zG_of 700 (by decide +kernel) rfl, zG_sel 50 (by decide +kernel) rfl⟩
theorem lm_sc_216 : zLt "StatuteConsolidator" 216 4 m_sc_quotientBits := ⟨⟨mk_sc_quotientBits, by decide +kernel, Or.inl (zG_of 708 (by decide +kernel) rfl)⟩, zG_of 709 (by decide +kernel) rfl⟩
theorem lm_sc_224 : zLt "StatuteConsolidator" 224 1 m_sc_isShelf := ⟨⟨mk_sc_isShelf, by decide +kernel, Or.inl (zG_of 722 (by decide +kernel) rfl)⟩, zG_of 723 (by decide +kernel) rfl⟩
theorem lm_sc_227 : zLv "StatuteConsolidator" 227 3 m_sh_fillWithMissing := ⟨⟨mk_sh_fillWithMissing, by decide +kernel, Or.inr ⟨"StatuteConsolidator", zN_of 725 (by decide +kernel) rfl⟩⟩, zG_of 727 (by decide +kernel) rfl, zG_sel 51 (by decide +kernel) rfl⟩
theorem lm_sc_231 : zLv "StatuteConsolidator" 231 2 m_sh_refusalOf := ⟨⟨mk_sh_refusalOf, by decide +kernel, Or.inr ⟨"StatuteConsolidator", zN_of 733 (by decide +kernel) rfl⟩⟩, zG_of 735 (by decide +kernel) rfl, zG_sel 52 (by decide +kernel) rfl⟩
theorem lf_sc_234 : zFl "StatuteConsolidator" 234 3 1 := ⟨ck_sh, _, _, _, rfl, by decide, Or.inr ⟨"StatuteConsolidator", zN_of 162 (by decide +kernel) rfl⟩⟩
theorem lf_sc_237 : zFl "StatuteConsolidator" 237 3 3 := ⟨ck_sh, _, _, _, rfl, by decide, Or.inr ⟨"StatuteConsolidator", zN_of 166 (by decide +kernel) rfl⟩⟩
theorem lf_sc_240 : zFl "StatuteConsolidator" 240 3 0 := ⟨ck_sh, _, _, _, rfl, by decide, Or.inr ⟨"StatuteConsolidator", zN_of 160 (by decide +kernel) rfl⟩⟩
theorem lm_sc_243 : zLv "StatuteConsolidator" 243 2 m_sh_copyArray := ⟨⟨mk_sh_copyArray, by decide +kernel, Or.inr ⟨"StatuteConsolidator", zN_of 745 (by decide +kernel) rfl⟩⟩, zG_of 747 (by decide +kernel) rfl, zG_sel 53 (by decide +kernel) rfl⟩
theorem lf_sc_247 : zFl "StatuteConsolidator" 247 3 2 := ⟨ck_sh, _, _, _, rfl, by decide, Or.inr ⟨"StatuteConsolidator", zN_of 164 (by decide +kernel) rfl⟩⟩
theorem lm_sc_250 : zLv "StatuteConsolidator" 250 1 m_sta_copyFrom := ⟨⟨mk_sta_copyFrom, by decide +kernel, Or.inr ⟨"StatuteConsolidator", zN_of 756 (by decide +kernel) rfl⟩⟩, zG_of 758 (by decide +kernel) rfl, zG_sel 54 (by decide +kernel) rfl⟩
theorem lm_sc_254 : zLv "StatuteConsolidator" 254 2 m_inp_readInstructions := ⟨⟨mk_inp_readInstructions, by decide +kernel, Or.inr ⟨"StatuteConsolidator", zN_of 354 (by decide +kernel) rfl⟩⟩, zG_of 356 (by decide +kernel) rfl, zG_sel 11 (by decide +kernel) rfl⟩
theorem lm_sc_258 : zLv "StatuteConsolidator" 258 1 m_pv_has := ⟨⟨mk_pv_has, by decide +kernel, Or.inr ⟨"StatuteConsolidator", zN_of 575 (by decide +kernel) rfl⟩⟩, zG_of 577 (by decide +kernel) rfl, zG_sel 41 (by decide +kernel) rfl⟩
theorem lo_am_3 : Cond.methodLink "StatuteConsolidator$Amendments" 3 Lib.objectInit ∈ zG := zG_of 78 (by decide +kernel) rfl
theorem lf_am_9 : zFl "StatuteConsolidator$Amendments" 9 0 1 := ⟨ck_am, _, _, _, rfl, by decide, Or.inl (zG_of 81 (by decide +kernel) rfl)⟩
theorem lf_am_15 : zFl "StatuteConsolidator$Amendments" 15 0 2 := ⟨ck_am, _, _, _, rfl, by decide, Or.inl (zG_of 84 (by decide +kernel) rfl)⟩
theorem lf_am_18 : zFl "StatuteConsolidator$Amendments" 18 0 3 := ⟨ck_am, _, _, _, rfl, by decide, Or.inl (zG_of 87 (by decide +kernel) rfl)⟩
theorem lf_am_21 : zFl "StatuteConsolidator$Amendments" 21 0 4 := ⟨ck_am, _, _, _, rfl, by decide, Or.inl (zG_of 90 (by decide +kernel) rfl)⟩
theorem lf_am_25 : zFl "StatuteConsolidator$Amendments" 25 0 5 := ⟨ck_am, _, _, _, rfl, by decide, Or.inl (zG_of 93 (by decide +kernel) rfl)⟩
theorem lf_am_28 : zFl "StatuteConsolidator$Amendments" 28 0 6 := ⟨ck_am, _, _, _, rfl, by decide, Or.inl (zG_of 96 (by decide +kernel) rfl)⟩
theorem lf_am_31 : zFl "StatuteConsolidator$Amendments" 31 0 0 := ⟨ck_am, _, _, _, rfl, by decide, Or.inl (zG_of 79 (by decide +kernel) rfl)⟩
theorem lc_am_35 : zCpW "StatuteConsolidator$Amendments" 35 := ⟨zG_of 766 (by decide +kernel) rfl, zG_of 751 (by decide +kernel) rfl, zG_of 750 (by decide +kernel) rfl, zG_of 17 (by decide +kernel) rfl⟩
theorem lm_am_41 : zLv "StatuteConsolidator$Amendments" 41 2 m_am_isBefore := ⟨⟨mk_am_isBefore, by decide +kernel, Or.inl (zG_of 500 (by decide +kernel) rfl)⟩, zG_of 502 (by decide +kernel) rfl, zG_sel 27 (by decide +kernel) rfl⟩
theorem lo_inp_3 : Cond.methodLink "StatuteConsolidator$Input" 3 Lib.objectInit ∈ zG := zG_of 138 (by decide +kernel) rfl
theorem lf_inp_9 : zFl "StatuteConsolidator$Input" 9 1 0 := ⟨ck_inp, _, _, _, rfl, by decide, Or.inl (zG_of 139 (by decide +kernel) rfl)⟩
theorem lf_inp_15 : zFl "StatuteConsolidator$Input" 15 1 2 := ⟨ck_inp, _, _, _, rfl, by decide, Or.inl (zG_of 143 (by decide +kernel) rfl)⟩
theorem lm_inp_19 : zLv "StatuteConsolidator$Input" 19 2 m_inp_readInstruction := ⟨⟨mk_inp_readInstruction, by decide +kernel, Or.inl (zG_of 358 (by decide +kernel) rfl)⟩, zG_of 360 (by decide +kernel) rfl, zG_sel 12 (by decide +kernel) rfl⟩
theorem lm_inp_23 : zLv "StatuteConsolidator$Input" 23 0 m_inp_peek := ⟨⟨mk_inp_peek, by decide +kernel, Or.inl (zG_of 433 (by decide +kernel) rfl)⟩, zG_of 435 (by decide +kernel) rfl, zG_sel 16 (by decide +kernel) rfl⟩
theorem lm_inp_27 : zLv "StatuteConsolidator$Input" 27 1 m_inp_take := ⟨⟨mk_inp_take, by decide +kernel, Or.inl (zG_of 429 (by decide +kernel) rfl)⟩, zG_of 431 (by decide +kernel) rfl, zG_sel 15 (by decide +kernel) rfl⟩
theorem lm_inp_31 : zLv "StatuteConsolidator$Input" 31 0 m_inp_readKind := ⟨⟨mk_inp_readKind, by decide +kernel, Or.inl (zG_of 362 (by decide +kernel) rfl)⟩, zG_of 364 (by decide +kernel) rfl, zG_sel 13 (by decide +kernel) rfl⟩
theorem lm_inp_34 : zLv "StatuteConsolidator$Input" 34 0 m_inp_readPath := ⟨⟨mk_inp_readPath, by decide +kernel, Or.inl (zG_of 437 (by decide +kernel) rfl)⟩, zG_of 439 (by decide +kernel) rfl, zG_sel 17 (by decide +kernel) rfl⟩
theorem lf_inp_40 : zFl "StatuteConsolidator$Input" 40 0 3 := ⟨ck_am, _, _, _, rfl, by decide, Or.inr ⟨"StatuteConsolidator", zN_of 88 (by decide +kernel) rfl⟩⟩
theorem lf_inp_45 : zFl "StatuteConsolidator$Input" 45 0 4 := ⟨ck_am, _, _, _, rfl, by decide, Or.inr ⟨"StatuteConsolidator", zN_of 91 (by decide +kernel) rfl⟩⟩
theorem lf_inp_49 : zFl "StatuteConsolidator$Input" 49 0 5 := ⟨ck_am, _, _, _, rfl, by decide, Or.inr ⟨"StatuteConsolidator", zN_of 94 (by decide +kernel) rfl⟩⟩
theorem lf_inp_52 : zFl "StatuteConsolidator$Input" 52 0 6 := ⟨ck_am, _, _, _, rfl, by decide, Or.inr ⟨"StatuteConsolidator", zN_of 97 (by decide +kernel) rfl⟩⟩
theorem lm_inp_55 : zLv "StatuteConsolidator$Input" 55 0 m_inp_readText := ⟨⟨mk_inp_readText, by decide +kernel, Or.inl (zG_of 455 (by decide +kernel) rfl)⟩, zG_of 457 (by decide +kernel) rfl, zG_sel 21 (by decide +kernel) rfl⟩
theorem lf_inp_58 : zFl "StatuteConsolidator$Input" 58 1 1 := ⟨ck_inp, _, _, _, rfl, by decide, Or.inl (zG_of 141 (by decide +kernel) rfl)⟩
theorem lm_inp_61 : zLt "StatuteConsolidator$Input" 61 1 m_inp_wordOf := ⟨⟨mk_inp_wordOf, by decide +kernel, Or.inl (zG_of 366 (by decide +kernel) rfl)⟩, zG_of 367 (by decide +kernel) rfl⟩
theorem lm_inp_65 : zLv "StatuteConsolidator$Input" 65 1 m_inp_matchingLength := ⟨⟨mk_inp_matchingLength, by decide +kernel, Or.inl (zG_of 375 (by decide +kernel) rfl)⟩, zG_of 377 (by decide +kernel) rfl, zG_sel 14 (by decide +kernel) rfl⟩
theorem lm_inp_69 : zLv "StatuteConsolidator$Input" 69 0 m_js_length := ⟨⟨mk_js_length, by decide +kernel, Or.inl (zG_of 379 (by decide +kernel) rfl)⟩, zG_of 380 (by decide +kernel) rfl, zG_of 381 (by decide +kernel) rfl⟩
theorem lmm_inp_73 : Cond.methodLink "StatuteConsolidator$Input" 73 Lib.Math.max.name ∈ zG := zG_of 428 (by decide +kernel) rfl
theorem lmm_inp_91 : Cond.methodLink "StatuteConsolidator$Input" 91 Lib.Math.min.name ∈ zG := zG_of 389 (by decide +kernel) rfl
theorem lm_inp_94 : zLv "StatuteConsolidator$Input" 94 1 m_js_charAt := ⟨⟨mk_js_charAt, by decide +kernel, Or.inl (zG_of 390 (by decide +kernel) rfl)⟩, zG_of 391 (by decide +kernel) rfl, zG_of 392 (by decide +kernel) rfl⟩
theorem lm_inp_98 : zLv "StatuteConsolidator$Input" 98 0 m_inp_readLabel := ⟨⟨mk_inp_readLabel, by decide +kernel, Or.inl (zG_of 441 (by decide +kernel) rfl)⟩, zG_of 443 (by decide +kernel) rfl, zG_sel 18 (by decide +kernel) rfl⟩
theorem lm_inp_101 : zLt "StatuteConsolidator$Input" 101 2 m_pa_childOf := ⟨⟨mk_pa_childOf, by decide +kernel, Or.inr ⟨"StatuteConsolidator", zN_of 454 (by decide +kernel) rfl⟩⟩, zG_of 274 (by decide +kernel) rfl⟩
theorem lm_inp_105 : zLv "StatuteConsolidator$Input" 105 2 m_inp_isNextBetween := ⟨⟨mk_inp_isNextBetween, by decide +kernel, Or.inl (zG_of 445 (by decide +kernel) rfl)⟩, zG_of 447 (by decide +kernel) rfl, zG_sel 19 (by decide +kernel) rfl⟩
theorem lm_inp_109 : zLv "StatuteConsolidator$Input" 109 0 m_inp_takeDigit := ⟨⟨mk_inp_takeDigit, by decide +kernel, Or.inl (zG_of 449 (by decide +kernel) rfl)⟩, zG_of 451 (by decide +kernel) rfl, zG_sel 20 (by decide +kernel) rfl⟩
theorem lm_inp_112 : zLt "StatuteConsolidator$Input" 112 1 m_pa_labelOfNumber := ⟨⟨mk_pa_labelOfNumber, by decide +kernel, Or.inr ⟨"StatuteConsolidator", zN_of 453 (by decide +kernel) rfl⟩⟩, zG_of 271 (by decide +kernel) rfl⟩
theorem lm_pa_11 : zLt "StatuteConsolidator$Paths" 11 2 m_pa_letterOf := ⟨⟨mk_pa_letterOf, by decide +kernel, Or.inl (zG_of 602 (by decide +kernel) rfl)⟩, zG_of 603 (by decide +kernel) rfl⟩
theorem lm_pa_21 : zLt "StatuteConsolidator$Paths" 21 1 m_pa_levelOf := ⟨⟨mk_pa_levelOf, by decide +kernel, Or.inl (zG_of 276 (by decide +kernel) rfl)⟩, zG_of 247 (by decide +kernel) rfl⟩
theorem lm_pa_25 : zLt "StatuteConsolidator$Paths" 25 3 m_pa_withLabel := ⟨⟨mk_pa_withLabel, by decide +kernel, Or.inl (zG_of 277 (by decide +kernel) rfl)⟩, zG_of 278 (by decide +kernel) rfl⟩
theorem lm_pa_33 : zLt "StatuteConsolidator$Paths" 33 1 m_pa_numberOf := ⟨⟨mk_pa_numberOf, by decide +kernel, Or.inl (zG_of 598 (by decide +kernel) rfl)⟩, zG_of 265 (by decide +kernel) rfl⟩
theorem lm_pa_37 : zLt "StatuteConsolidator$Paths" 37 2 m_pa_labelAt := ⟨⟨mk_pa_labelAt, by decide +kernel, Or.inl (zG_of 594 (by decide +kernel) rfl)⟩, zG_of 262 (by decide +kernel) rfl⟩
theorem lm_pa_41 : zLt "StatuteConsolidator$Paths" 41 1 m_pa_digitsOf := ⟨⟨mk_pa_digitsOf, by decide +kernel, Or.inl (zG_of 595 (by decide +kernel) rfl)⟩, zG_of 596 (by decide +kernel) rfl⟩
theorem lm_pa_44 : zLt "StatuteConsolidator$Paths" 44 1 m_pa_lettersOf := ⟨⟨mk_pa_lettersOf, by decide +kernel, Or.inl (zG_of 599 (by decide +kernel) rfl)⟩, zG_of 600 (by decide +kernel) rfl⟩
theorem lm_pa_47 : zLt "StatuteConsolidator$Paths" 47 2 m_pa_characterOfLabel := ⟨⟨mk_pa_characterOfLabel, by decide +kernel, Or.inl (zG_of 612 (by decide +kernel) rfl)⟩, zG_of 613 (by decide +kernel) rfl⟩
theorem lo_pv_3 : Cond.methodLink "StatuteConsolidator$Provisions" 3 Lib.objectInit ∈ zG := zG_of 37 (by decide +kernel) rfl
theorem lf_pv_9 : zFl "StatuteConsolidator$Provisions" 9 2 1 := ⟨ck_pv, _, _, _, rfl, by decide, Or.inl (zG_of 42 (by decide +kernel) rfl)⟩
theorem lf_pv_15 : zFl "StatuteConsolidator$Provisions" 15 2 2 := ⟨ck_pv, _, _, _, rfl, by decide, Or.inl (zG_of 45 (by decide +kernel) rfl)⟩
theorem lf_pv_19 : zFl "StatuteConsolidator$Provisions" 19 2 3 := ⟨ck_pv, _, _, _, rfl, by decide, Or.inl (zG_of 48 (by decide +kernel) rfl)⟩
theorem lf_pv_23 : zFl "StatuteConsolidator$Provisions" 23 2 4 := ⟨ck_pv, _, _, _, rfl, by decide, Or.inl (zG_of 51 (by decide +kernel) rfl)⟩
theorem lf_pv_26 : zFl "StatuteConsolidator$Provisions" 26 2 5 := ⟨ck_pv, _, _, _, rfl, by decide, Or.inl (zG_of 53 (by decide +kernel) rfl)⟩
theorem lf_pv_29 : zFl "StatuteConsolidator$Provisions" 29 2 0 := ⟨ck_pv, _, _, _, rfl, by decide, Or.inl (zG_of 38 (by decide +kernel) rfl)⟩
theorem lmm_pv_33 : Cond.methodLink "StatuteConsolidator$Provisions" 33 Lib.Math.min.name ∈ zG := zG_of 305 (by decide +kernel) rfl
theorem lm_pv_39 : zLv "StatuteConsolidator$Provisions" 39 1 m_pv_positionOfOrigin := ⟨⟨mk_pv_positionOfOrigin, by decide +kernel, Or.inl (zG_of 661 (by decide +kernel) rfl)⟩, zG_of 244 (by decide +kernel) rfl, zG_sel 2 (by decide +kernel) rfl⟩
theorem lm_pv_43 : zLt "StatuteConsolidator$Provisions" 43 1 m_pa_levelOf := ⟨⟨mk_pa_levelOf, by decide +kernel, Or.inr ⟨"StatuteConsolidator", zN_of 255 (by decide +kernel) rfl⟩⟩, zG_of 247 (by decide +kernel) rfl⟩
theorem lm_pv_49 : zLt "StatuteConsolidator$Provisions" 49 1 m_pa_parentOf := ⟨⟨mk_pa_parentOf, by decide +kernel, Or.inr ⟨"StatuteConsolidator", zN_of 256 (by decide +kernel) rfl⟩⟩, zG_of 257 (by decide +kernel) rfl⟩
theorem lm_pv_53 : zLt "StatuteConsolidator$Provisions" 53 2 m_pa_labelAt := ⟨⟨mk_pa_labelAt, by decide +kernel, Or.inr ⟨"StatuteConsolidator", zN_of 261 (by decide +kernel) rfl⟩⟩, zG_of 262 (by decide +kernel) rfl⟩
theorem lm_pv_57 : zLt "StatuteConsolidator$Provisions" 57 1 m_pa_numberOf := ⟨⟨mk_pa_numberOf, by decide +kernel, Or.inr ⟨"StatuteConsolidator", zN_of 264 (by decide +kernel) rfl⟩⟩, zG_of 265 (by decide +kernel) rfl⟩
theorem lmm_pv_60 : Cond.methodLink "StatuteConsolidator$Provisions" 60 Lib.Math.max.name ∈ zG := zG_of 267 (by decide +kernel) rfl
theorem lm_pv_63 : zLt "StatuteConsolidator$Provisions" 63 1 m_pa_labelOfNumber := ⟨⟨mk_pa_labelOfNumber, by decide +kernel, Or.inr ⟨"StatuteConsolidator", zN_of 270 (by decide +kernel) rfl⟩⟩, zG_of 271 (by decide +kernel) rfl⟩
theorem lm_pv_66 : zLt "StatuteConsolidator$Provisions" 66 2 m_pa_labelBetween := ⟨⟨mk_pa_labelBetween, by decide +kernel, Or.inr ⟨"StatuteConsolidator", zN_of 308 (by decide +kernel) rfl⟩⟩, zG_of 309 (by decide +kernel) rfl⟩
theorem lm_pv_69 : zLt "StatuteConsolidator$Provisions" 69 3 m_pa_isWithin := ⟨⟨mk_pa_isWithin, by decide +kernel, Or.inr ⟨"StatuteConsolidator", zN_of 544 (by decide +kernel) rfl⟩⟩, zG_of 545 (by decide +kernel) rfl⟩
theorem lm_pv_73 : zLt "StatuteConsolidator$Provisions" 73 2 m_pa_tailBelow := ⟨⟨mk_pa_tailBelow, by decide +kernel, Or.inr ⟨"StatuteConsolidator", zN_of 555 (by decide +kernel) rfl⟩⟩, zG_of 556 (by decide +kernel) rfl⟩
theorem lm_pv_77 : zLt "StatuteConsolidator$Provisions" 77 3 m_pa_withLabel := ⟨⟨mk_pa_withLabel, by decide +kernel, Or.inr ⟨"StatuteConsolidator", zN_of 562 (by decide +kernel) rfl⟩⟩, zG_of 278 (by decide +kernel) rfl⟩
theorem lm_pv_81 : zLv "StatuteConsolidator$Provisions" 81 2 m_pv_swap := ⟨⟨mk_pv_swap, by decide +kernel, Or.inl (zG_of 293 (by decide +kernel) rfl)⟩, zG_of 295 (by decide +kernel) rfl, zG_sel 7 (by decide +kernel) rfl⟩
theorem lm_pv_85 : zLv "StatuteConsolidator$Provisions" 85 2 m_pv_differsAt := ⟨⟨mk_pv_differsAt, by decide +kernel, Or.inl (zG_of 640 (by decide +kernel) rfl)⟩, zG_of 642 (by decide +kernel) rfl, zG_sel 44 (by decide +kernel) rfl⟩
theorem lm_pv_89 : zLv "StatuteConsolidator$Provisions" 89 1 m_pv_firstDifferenceFrom := ⟨⟨mk_pv_firstDifferenceFrom, by decide +kernel, Or.inl (zG_of 702 (by decide +kernel) rfl)⟩, zG_of 638 (by decide +kernel) rfl, zG_sel 43 (by decide +kernel) rfl⟩
theorem lo_sh_3 : Cond.methodLink "StatuteConsolidator$Shelves" 3 Lib.objectInit ∈ zG := zG_of 157 (by decide +kernel) rfl
theorem lf_sh_9 : zFl "StatuteConsolidator$Shelves" 9 3 0 := ⟨ck_sh, _, _, _, rfl, by decide, Or.inl (zG_of 159 (by decide +kernel) rfl)⟩
theorem lf_sh_15 : zFl "StatuteConsolidator$Shelves" 15 3 1 := ⟨ck_sh, _, _, _, rfl, by decide, Or.inl (zG_of 161 (by decide +kernel) rfl)⟩
theorem lf_sh_19 : zFl "StatuteConsolidator$Shelves" 19 3 2 := ⟨ck_sh, _, _, _, rfl, by decide, Or.inl (zG_of 163 (by decide +kernel) rfl)⟩
theorem lf_sh_24 : zFl "StatuteConsolidator$Shelves" 24 3 3 := ⟨ck_sh, _, _, _, rfl, by decide, Or.inl (zG_of 165 (by decide +kernel) rfl)⟩
theorem lc_sh_27 : zCpW "StatuteConsolidator$Shelves" 27 := ⟨zG_of 749 (by decide +kernel) rfl, zG_of 751 (by decide +kernel) rfl, zG_of 750 (by decide +kernel) rfl, zG_of 17 (by decide +kernel) rfl⟩
theorem lo_sta_3 : Cond.methodLink "StatuteConsolidator$Statute" 3 Lib.objectInit ∈ zG := zG_of 31 (by decide +kernel) rfl
theorem lm_sta_11 : zLi "StatuteConsolidator$Statute" 11 0 m_pv_init := ⟨⟨mk_pv_init, by decide +kernel, Or.inr ⟨"StatuteConsolidator", zN_of 34 (by decide +kernel) rfl⟩⟩, zG_of 35 (by decide +kernel) rfl, rfl, rfl⟩
theorem lf_sta_12 : zFl "StatuteConsolidator$Statute" 12 4 0 := ⟨ck_sta, _, _, _, rfl, by decide, Or.inl (zG_of 114 (by decide +kernel) rfl)⟩
theorem lf_sta_18 : zFl "StatuteConsolidator$Statute" 18 4 1 := ⟨ck_sta, _, _, _, rfl, by decide, Or.inl (zG_of 117 (by decide +kernel) rfl)⟩
theorem lf_sta_24 : zFl "StatuteConsolidator$Statute" 24 4 2 := ⟨ck_sta, _, _, _, rfl, by decide, Or.inl (zG_of 119 (by decide +kernel) rfl)⟩
theorem lm_sta_29 : zLi "StatuteConsolidator$Statute" 29 0 m_am_init := ⟨⟨mk_am_init, by decide +kernel, Or.inr ⟨"StatuteConsolidator", zN_of 75 (by decide +kernel) rfl⟩⟩, zG_of 76 (by decide +kernel) rfl, rfl, rfl⟩
theorem lf_sta_30 : zFl "StatuteConsolidator$Statute" 30 4 3 := ⟨ck_sta, _, _, _, rfl, by decide, Or.inl (zG_of 121 (by decide +kernel) rfl)⟩
theorem lm_sta_34 : zLv "StatuteConsolidator$Statute" 34 1 m_pv_copyFrom := ⟨⟨mk_pv_copyFrom, by decide +kernel, Or.inr ⟨"StatuteConsolidator", zN_of 760 (by decide +kernel) rfl⟩⟩, zG_of 494 (by decide +kernel) rfl, zG_sel 25 (by decide +kernel) rfl⟩
theorem lc_sta_38 : zCpW "StatuteConsolidator$Statute" 38 := ⟨zG_of 761 (by decide +kernel) rfl, zG_of 751 (by decide +kernel) rfl, zG_of 750 (by decide +kernel) rfl, zG_of 17 (by decide +kernel) rfl⟩
theorem lm_sta_44 : zLv "StatuteConsolidator$Statute" 44 1 m_am_copyFrom := ⟨⟨mk_am_copyFrom, by decide +kernel, Or.inr ⟨"StatuteConsolidator", zN_of 762 (by decide +kernel) rfl⟩⟩, zG_of 764 (by decide +kernel) rfl, zG_sel 55 (by decide +kernel) rfl⟩
theorem lf_sta_47 : zFl "StatuteConsolidator$Statute" 47 2 0 := ⟨ck_pv, _, _, _, rfl, by decide, Or.inr ⟨"StatuteConsolidator", zN_of 40 (by decide +kernel) rfl⟩⟩
theorem lm_sta_51 : zLv "StatuteConsolidator$Statute" 51 1 m_pv_positionOfOrigin := ⟨⟨mk_pv_positionOfOrigin, by decide +kernel, Or.inr ⟨"StatuteConsolidator", zN_of 242 (by decide +kernel) rfl⟩⟩, zG_of 244 (by decide +kernel) rfl, zG_sel 2 (by decide +kernel) rfl⟩
theorem lf_sta_57 : zFl "StatuteConsolidator$Statute" 57 2 1 := ⟨ck_pv, _, _, _, rfl, by decide, Or.inr ⟨"StatuteConsolidator", zN_of 43 (by decide +kernel) rfl⟩⟩
theorem lm_sta_61 : zLv "StatuteConsolidator$Statute" 61 1 m_sta_hasProvision := ⟨⟨mk_sta_hasProvision, by decide +kernel, Or.inl (zG_of 652 (by decide +kernel) rfl)⟩, zG_of 233 (by decide +kernel) rfl, zG_sel 0 (by decide +kernel) rfl⟩
theorem lm_sta_65 : zLv "StatuteConsolidator$Statute" 65 4 m_pv_append := ⟨⟨mk_pv_append, by decide +kernel, Or.inr ⟨"StatuteConsolidator", zN_of 285 (by decide +kernel) rfl⟩⟩, zG_of 287 (by decide +kernel) rfl, zG_sel 5 (by decide +kernel) rfl⟩
theorem lm_sta_69 : zLv "StatuteConsolidator$Statute" 69 0 m_pv_restoreOrder := ⟨⟨mk_pv_restoreOrder, by decide +kernel, Or.inr ⟨"StatuteConsolidator", zN_of 289 (by decide +kernel) rfl⟩⟩, zG_of 291 (by decide +kernel) rfl, zG_sel 6 (by decide +kernel) rfl⟩
theorem lo_ver_3 : Cond.methodLink "StatuteConsolidator$Version" 3 Lib.objectInit ∈ zG := zG_of 181 (by decide +kernel) rfl
theorem lm_ver_11 : zLi "StatuteConsolidator$Version" 11 0 m_pv_init := ⟨⟨mk_pv_init, by decide +kernel, Or.inr ⟨"StatuteConsolidator", zN_of 183 (by decide +kernel) rfl⟩⟩, zG_of 35 (by decide +kernel) rfl, rfl, rfl⟩
theorem lf_ver_12 : zFl "StatuteConsolidator$Version" 12 5 0 := ⟨ck_ver, _, _, _, rfl, by decide, Or.inl (zG_of 184 (by decide +kernel) rfl)⟩
theorem lf_ver_18 : zFl "StatuteConsolidator$Version" 18 5 2 := ⟨ck_ver, _, _, _, rfl, by decide, Or.inl (zG_of 188 (by decide +kernel) rfl)⟩
theorem lf_ver_22 : zFl "StatuteConsolidator$Version" 22 5 3 := ⟨ck_ver, _, _, _, rfl, by decide, Or.inl (zG_of 190 (by decide +kernel) rfl)⟩
theorem lf_ver_25 : zFl "StatuteConsolidator$Version" 25 5 4 := ⟨ck_ver, _, _, _, rfl, by decide, Or.inl (zG_of 192 (by decide +kernel) rfl)⟩
theorem lm_ver_28 : zLv "StatuteConsolidator$Version" 28 1 m_ver_start := ⟨⟨mk_ver_start, by decide +kernel, Or.inl (zG_of 488 (by decide +kernel) rfl)⟩, zG_of 490 (by decide +kernel) rfl, zG_sel 24 (by decide +kernel) rfl⟩
theorem lf_ver_32 : zFl "StatuteConsolidator$Version" 32 4 3 := ⟨ck_sta, _, _, _, rfl, by decide, Or.inr ⟨"StatuteConsolidator", zN_of 122 (by decide +kernel) rfl⟩⟩
theorem lm_ver_38 : zLv "StatuteConsolidator$Version" 38 1 m_am_nextAfter := ⟨⟨mk_am_nextAfter, by decide +kernel, Or.inr ⟨"StatuteConsolidator", zN_of 496 (by decide +kernel) rfl⟩⟩, zG_of 498 (by decide +kernel) rfl, zG_sel 26 (by decide +kernel) rfl⟩
theorem lf_ver_44 : zFl "StatuteConsolidator$Version" 44 0 1 := ⟨ck_am, _, _, _, rfl, by decide, Or.inr ⟨"StatuteConsolidator", zN_of 82 (by decide +kernel) rfl⟩⟩
theorem lm_ver_47 : zLv "StatuteConsolidator$Version" 47 2 m_ver_apply := ⟨⟨mk_ver_apply, by decide +kernel, Or.inl (zG_of 504 (by decide +kernel) rfl)⟩, zG_of 506 (by decide +kernel) rfl, zG_sel 28 (by decide +kernel) rfl⟩
theorem lf_ver_51 : zFl "StatuteConsolidator$Version" 51 4 0 := ⟨ck_sta, _, _, _, rfl, by decide, Or.inr ⟨"StatuteConsolidator", zN_of 116 (by decide +kernel) rfl⟩⟩
theorem lm_ver_54 : zLv "StatuteConsolidator$Version" 54 1 m_pv_copyFrom := ⟨⟨mk_pv_copyFrom, by decide +kernel, Or.inr ⟨"StatuteConsolidator", zN_of 492 (by decide +kernel) rfl⟩⟩, zG_of 494 (by decide +kernel) rfl, zG_sel 25 (by decide +kernel) rfl⟩
theorem lf_ver_58 : zFl "StatuteConsolidator$Version" 58 5 1 := ⟨ck_ver, _, _, _, rfl, by decide, Or.inl (zG_of 186 (by decide +kernel) rfl)⟩
theorem lf_ver_62 : zFl "StatuteConsolidator$Version" 62 0 2 := ⟨ck_am, _, _, _, rfl, by decide, Or.inr ⟨"StatuteConsolidator", zN_of 85 (by decide +kernel) rfl⟩⟩
theorem lmm_ver_65 : Cond.methodLink "StatuteConsolidator$Version" 65 Lib.Math.min.name ∈ zG := zG_of 508 (by decide +kernel) rfl
theorem lm_ver_71 : zLv "StatuteConsolidator$Version" 71 2 m_ver_reasonAgainst := ⟨⟨mk_ver_reasonAgainst, by decide +kernel, Or.inl (zG_of 509 (by decide +kernel) rfl)⟩, zG_of 511 (by decide +kernel) rfl, zG_sel 29 (by decide +kernel) rfl⟩
theorem lm_ver_75 : zLv "StatuteConsolidator$Version" 75 3 m_ver_carryOut := ⟨⟨mk_ver_carryOut, by decide +kernel, Or.inl (zG_of 518 (by decide +kernel) rfl)⟩, zG_of 520 (by decide +kernel) rfl, zG_sel 31 (by decide +kernel) rfl⟩
theorem lm_ver_79 : zLv "StatuteConsolidator$Version" 79 3 m_ver_keepConflict := ⟨⟨mk_ver_keepConflict, by decide +kernel, Or.inl (zG_of 563 (by decide +kernel) rfl)⟩, zG_of 565 (by decide +kernel) rfl, zG_sel 39 (by decide +kernel) rfl⟩
theorem lf_ver_83 : zFl "StatuteConsolidator$Version" 83 0 3 := ⟨ck_am, _, _, _, rfl, by decide, Or.inr ⟨"StatuteConsolidator", zN_of 89 (by decide +kernel) rfl⟩⟩
theorem lf_ver_86 : zFl "StatuteConsolidator$Version" 86 0 4 := ⟨ck_am, _, _, _, rfl, by decide, Or.inr ⟨"StatuteConsolidator", zN_of 92 (by decide +kernel) rfl⟩⟩
theorem lf_ver_90 : zFl "StatuteConsolidator$Version" 90 0 5 := ⟨ck_am, _, _, _, rfl, by decide, Or.inr ⟨"StatuteConsolidator", zN_of 95 (by decide +kernel) rfl⟩⟩
theorem lm_ver_93 : zLv "StatuteConsolidator$Version" 93 1 m_pv_positionOf := ⟨⟨mk_pv_positionOf, by decide +kernel, Or.inr ⟨"StatuteConsolidator", zN_of 513 (by decide +kernel) rfl⟩⟩, zG_of 515 (by decide +kernel) rfl, zG_sel 30 (by decide +kernel) rfl⟩
theorem lf_ver_97 : zFl "StatuteConsolidator$Version" 97 2 3 := ⟨ck_pv, _, _, _, rfl, by decide, Or.inr ⟨"StatuteConsolidator", zN_of 49 (by decide +kernel) rfl⟩⟩
theorem lm_ver_101 : zLt "StatuteConsolidator$Version" 101 1 m_pa_levelOf := ⟨⟨mk_pa_levelOf, by decide +kernel, Or.inr ⟨"StatuteConsolidator", zN_of 517 (by decide +kernel) rfl⟩⟩, zG_of 247 (by decide +kernel) rfl⟩
theorem lf_ver_106 : zFl "StatuteConsolidator$Version" 106 2 0 := ⟨ck_pv, _, _, _, rfl, by decide, Or.inr ⟨"StatuteConsolidator", zN_of 41 (by decide +kernel) rfl⟩⟩
theorem lf_ver_109 : zFl "StatuteConsolidator$Version" 109 0 6 := ⟨ck_am, _, _, _, rfl, by decide, Or.inr ⟨"StatuteConsolidator", zN_of 98 (by decide +kernel) rfl⟩⟩
theorem lm_ver_112 : zLv "StatuteConsolidator$Version" 112 3 m_ver_insertAfter := ⟨⟨mk_ver_insertAfter, by decide +kernel, Or.inl (zG_of 522 (by decide +kernel) rfl)⟩, zG_of 524 (by decide +kernel) rfl, zG_sel 32 (by decide +kernel) rfl⟩
theorem lm_ver_116 : zLv "StatuteConsolidator$Version" 116 3 m_ver_addChild := ⟨⟨mk_ver_addChild, by decide +kernel, Or.inl (zG_of 530 (by decide +kernel) rfl)⟩, zG_of 532 (by decide +kernel) rfl, zG_sel 33 (by decide +kernel) rfl⟩
theorem lm_ver_119 : zLv "StatuteConsolidator$Version" 119 2 m_ver_replaceText := ⟨⟨mk_ver_replaceText, by decide +kernel, Or.inl (zG_of 536 (by decide +kernel) rfl)⟩, zG_of 538 (by decide +kernel) rfl, zG_sel 34 (by decide +kernel) rfl⟩
theorem lm_ver_123 : zLv "StatuteConsolidator$Version" 123 1 m_pv_repeal := ⟨⟨mk_pv_repeal, by decide +kernel, Or.inr ⟨"StatuteConsolidator", zN_of 540 (by decide +kernel) rfl⟩⟩, zG_of 542 (by decide +kernel) rfl, zG_sel 35 (by decide +kernel) rfl⟩
theorem lm_ver_127 : zLv "StatuteConsolidator$Version" 127 2 m_ver_moveAfter := ⟨⟨mk_ver_moveAfter, by decide +kernel, Or.inl (zG_of 547 (by decide +kernel) rfl)⟩, zG_of 549 (by decide +kernel) rfl, zG_sel 36 (by decide +kernel) rfl⟩
theorem lm_ver_131 : zLv "StatuteConsolidator$Version" 131 1 m_pv_renumberChildren := ⟨⟨mk_pv_renumberChildren, by decide +kernel, Or.inr ⟨"StatuteConsolidator", zN_of 558 (by decide +kernel) rfl⟩⟩, zG_of 560 (by decide +kernel) rfl, zG_sel 38 (by decide +kernel) rfl⟩
theorem lm_ver_134 : zLv "StatuteConsolidator$Version" 134 2 m_pv_labelAfter := ⟨⟨mk_pv_labelAfter, by decide +kernel, Or.inr ⟨"StatuteConsolidator", zN_of 526 (by decide +kernel) rfl⟩⟩, zG_of 303 (by decide +kernel) rfl, zG_sel 8 (by decide +kernel) rfl⟩
theorem lm_ver_137 : zLt "StatuteConsolidator$Version" 137 2 m_pa_siblingOf := ⟨⟨mk_pa_siblingOf, by decide +kernel, Or.inr ⟨"StatuteConsolidator", zN_of 527 (by decide +kernel) rfl⟩⟩, zG_of 312 (by decide +kernel) rfl⟩
theorem lm_ver_141 : zLv "StatuteConsolidator$Version" 141 4 m_pv_append := ⟨⟨mk_pv_append, by decide +kernel, Or.inr ⟨"StatuteConsolidator", zN_of 528 (by decide +kernel) rfl⟩⟩, zG_of 287 (by decide +kernel) rfl, zG_sel 5 (by decide +kernel) rfl⟩
theorem lm_ver_145 : zLv "StatuteConsolidator$Version" 145 0 m_pv_restoreOrder := ⟨⟨mk_pv_restoreOrder, by decide +kernel, Or.inr ⟨"StatuteConsolidator", zN_of 529 (by decide +kernel) rfl⟩⟩, zG_of 291 (by decide +kernel) rfl, zG_sel 6 (by decide +kernel) rfl⟩
theorem lm_ver_148 : zLv "StatuteConsolidator$Version" 148 1 m_pv_labelOfNewLastChild := ⟨⟨mk_pv_labelOfNewLastChild, by decide +kernel, Or.inr ⟨"StatuteConsolidator", zN_of 534 (by decide +kernel) rfl⟩⟩, zG_of 253 (by decide +kernel) rfl, zG_sel 3 (by decide +kernel) rfl⟩
theorem lm_ver_151 : zLt "StatuteConsolidator$Version" 151 2 m_pa_childOf := ⟨⟨mk_pa_childOf, by decide +kernel, Or.inr ⟨"StatuteConsolidator", zN_of 535 (by decide +kernel) rfl⟩⟩, zG_of 274 (by decide +kernel) rfl⟩
theorem lf_ver_154 : zFl "StatuteConsolidator$Version" 154 2 2 := ⟨ck_pv, _, _, _, rfl, by decide, Or.inr ⟨"StatuteConsolidator", zN_of 47 (by decide +kernel) rfl⟩⟩
theorem lm_ver_155 : zLv "StatuteConsolidator$Version" 155 2 m_pv_changePath := ⟨⟨mk_pv_changePath, by decide +kernel, Or.inr ⟨"StatuteConsolidator", zN_of 551 (by decide +kernel) rfl⟩⟩, zG_of 553 (by decide +kernel) rfl, zG_sel 37 (by decide +kernel) rfl⟩
theorem lm_law_9 : zLi "StatuteConsolidatorLaw" 9 0 m_sc_init := ⟨⟨mk_sc_init, by decide +kernel, Or.inl (zG_of 20 (by decide +kernel) rfl)⟩, zG_of 21 (by decide +kernel) rfl, rfl, rfl⟩
theorem lm_law_12 : zLi "StatuteConsolidatorLaw" 12 0 m_mo_init := ⟨⟨mk_mo_init, by decide +kernel, Or.inl (zG_of 773 (by decide +kernel) rfl)⟩, zG_of 774 (by decide +kernel) rfl, rfl, rfl⟩
theorem lm_law_13 : zLv "StatuteConsolidatorLaw" 13 2 m_sc_addProvision := ⟨⟨mk_sc_addProvision, by decide +kernel, Or.inl (zG_of 227 (by decide +kernel) rfl)⟩, zG_of 228 (by decide +kernel) rfl, zG_of 229 (by decide +kernel) rfl⟩
theorem lm_law_17 : zLv "StatuteConsolidatorLaw" 17 2 m_mo_addProvision := ⟨⟨mk_mo_addProvision, by decide +kernel, Or.inl (zG_of 952 (by decide +kernel) rfl)⟩, zG_of 953 (by decide +kernel) rfl, zG_of 954 (by decide +kernel) rfl⟩
theorem lm_law_18 : zLv "StatuteConsolidatorLaw" 18 2 m_sc_insertProvision := ⟨⟨mk_sc_insertProvision, by decide +kernel, Or.inl (zG_of 297 (by decide +kernel) rfl)⟩, zG_of 298 (by decide +kernel) rfl, zG_of 299 (by decide +kernel) rfl⟩
theorem lm_law_21 : zLv "StatuteConsolidatorLaw" 21 2 m_mo_insertProvision := ⟨⟨mk_mo_insertProvision, by decide +kernel, Or.inl (zG_of 987 (by decide +kernel) rfl)⟩, zG_of 988 (by decide +kernel) rfl, zG_of 989 (by decide +kernel) rfl⟩
theorem lm_law_22 : zLv "StatuteConsolidatorLaw" 22 2 m_sc_setText := ⟨⟨mk_sc_setText, by decide +kernel, Or.inl (zG_of 314 (by decide +kernel) rfl)⟩, zG_of 315 (by decide +kernel) rfl, zG_of 316 (by decide +kernel) rfl⟩
theorem lm_law_25 : zLv "StatuteConsolidatorLaw" 25 2 m_mo_setText := ⟨⟨mk_mo_setText, by decide +kernel, Or.inl (zG_of 1008 (by decide +kernel) rfl)⟩, zG_of 1009 (by decide +kernel) rfl, zG_of 1010 (by decide +kernel) rfl⟩
theorem lm_law_26 : zLv "StatuteConsolidatorLaw" 26 2 m_sc_addReference := ⟨⟨mk_sc_addReference, by decide +kernel, Or.inl (zG_of 319 (by decide +kernel) rfl)⟩, zG_of 320 (by decide +kernel) rfl, zG_of 321 (by decide +kernel) rfl⟩
theorem lm_law_29 : zLv "StatuteConsolidatorLaw" 29 2 m_mo_addReference := ⟨⟨mk_mo_addReference, by decide +kernel, Or.inl (zG_of 1012 (by decide +kernel) rfl)⟩, zG_of 1013 (by decide +kernel) rfl, zG_of 1014 (by decide +kernel) rfl⟩
theorem lm_law_30 : zLv "StatuteConsolidatorLaw" 30 0 m_sc_clear := ⟨⟨mk_sc_clear, by decide +kernel, Or.inl (zG_of 323 (by decide +kernel) rfl)⟩, zG_of 324 (by decide +kernel) rfl, zG_of 325 (by decide +kernel) rfl⟩
theorem lm_law_34 : zLv "StatuteConsolidatorLaw" 34 0 m_mo_clear := ⟨⟨mk_mo_clear, by decide +kernel, Or.inl (zG_of 1016 (by decide +kernel) rfl)⟩, zG_of 1017 (by decide +kernel) rfl, zG_of 1018 (by decide +kernel) rfl⟩
theorem lm_law_35 : zLv "StatuteConsolidatorLaw" 35 0 m_sc_originalCount := ⟨⟨mk_sc_originalCount, by decide +kernel, Or.inl (zG_of 331 (by decide +kernel) rfl)⟩, zG_of 332 (by decide +kernel) rfl, zG_of 333 (by decide +kernel) rfl⟩
theorem lm_law_38 : zLv "StatuteConsolidatorLaw" 38 0 m_mo_originalCount := ⟨⟨mk_mo_originalCount, by decide +kernel, Or.inl (zG_of 1024 (by decide +kernel) rfl)⟩, zG_of 1025 (by decide +kernel) rfl, zG_of 1026 (by decide +kernel) rfl⟩
theorem lm_law_39 : zLv "StatuteConsolidatorLaw" 39 1 m_sc_appendCharacter := ⟨⟨mk_sc_appendCharacter, by decide +kernel, Or.inl (zG_of 335 (by decide +kernel) rfl)⟩, zG_of 336 (by decide +kernel) rfl, zG_of 337 (by decide +kernel) rfl⟩
theorem lm_law_43 : zLv "StatuteConsolidatorLaw" 43 1 m_mo_appendCharacter := ⟨⟨mk_mo_appendCharacter, by decide +kernel, Or.inl (zG_of 1028 (by decide +kernel) rfl)⟩, zG_of 1029 (by decide +kernel) rfl, zG_of 1030 (by decide +kernel) rfl⟩
theorem lm_law_44 : zLv "StatuteConsolidatorLaw" 44 0 m_sc_clearInput := ⟨⟨mk_sc_clearInput, by decide +kernel, Or.inl (zG_of 339 (by decide +kernel) rfl)⟩, zG_of 340 (by decide +kernel) rfl, zG_of 341 (by decide +kernel) rfl⟩
theorem lm_law_47 : zLv "StatuteConsolidatorLaw" 47 0 m_mo_clearInput := ⟨⟨mk_mo_clearInput, by decide +kernel, Or.inl (zG_of 1032 (by decide +kernel) rfl)⟩, zG_of 1033 (by decide +kernel) rfl, zG_of 1034 (by decide +kernel) rfl⟩
theorem lm_law_48 : zLv "StatuteConsolidatorLaw" 48 1 m_sc_addAmendment := ⟨⟨mk_sc_addAmendment, by decide +kernel, Or.inl (zG_of 343 (by decide +kernel) rfl)⟩, zG_of 344 (by decide +kernel) rfl, zG_of 345 (by decide +kernel) rfl⟩
theorem lm_law_51 : zLv "StatuteConsolidatorLaw" 51 1 m_mo_addAmendment := ⟨⟨mk_mo_addAmendment, by decide +kernel, Or.inl (zG_of 1036 (by decide +kernel) rfl)⟩, zG_of 1037 (by decide +kernel) rfl, zG_of 1038 (by decide +kernel) rfl⟩
theorem lm_law_52 : zLv "StatuteConsolidatorLaw" 52 0 m_sc_amendmentCount := ⟨⟨mk_sc_amendmentCount, by decide +kernel, Or.inl (zG_of 460 (by decide +kernel) rfl)⟩, zG_of 461 (by decide +kernel) rfl, zG_of 462 (by decide +kernel) rfl⟩
theorem lm_law_55 : zLv "StatuteConsolidatorLaw" 55 0 m_mo_amendmentCount := ⟨⟨mk_mo_amendmentCount, by decide +kernel, Or.inl (zG_of 1087 (by decide +kernel) rfl)⟩, zG_of 1088 (by decide +kernel) rfl, zG_of 1089 (by decide +kernel) rfl⟩
theorem lm_law_56 : zLv "StatuteConsolidatorLaw" 56 1 m_sc_instructionCount := ⟨⟨mk_sc_instructionCount, by decide +kernel, Or.inl (zG_of 464 (by decide +kernel) rfl)⟩, zG_of 465 (by decide +kernel) rfl, zG_of 466 (by decide +kernel) rfl⟩
theorem lm_law_59 : zLv "StatuteConsolidatorLaw" 59 1 m_mo_instructionCount := ⟨⟨mk_mo_instructionCount, by decide +kernel, Or.inl (zG_of 1091 (by decide +kernel) rfl)⟩, zG_of 1092 (by decide +kernel) rfl, zG_of 1093 (by decide +kernel) rfl⟩
theorem lm_law_60 : zLv "StatuteConsolidatorLaw" 60 2 m_sc_setCommencement := ⟨⟨mk_sc_setCommencement, by decide +kernel, Or.inl (zG_of 472 (by decide +kernel) rfl)⟩, zG_of 473 (by decide +kernel) rfl, zG_of 474 (by decide +kernel) rfl⟩
theorem lm_law_63 : zLv "StatuteConsolidatorLaw" 63 2 m_mo_setCommencement := ⟨⟨mk_mo_setCommencement, by decide +kernel, Or.inl (zG_of 1099 (by decide +kernel) rfl)⟩, zG_of 1100 (by decide +kernel) rfl, zG_of 1101 (by decide +kernel) rfl⟩
theorem lm_law_64 : zLv "StatuteConsolidatorLaw" 64 0 m_sc_removeLastAmendment := ⟨⟨mk_sc_removeLastAmendment, by decide +kernel, Or.inl (zG_of 476 (by decide +kernel) rfl)⟩, zG_of 477 (by decide +kernel) rfl, zG_of 478 (by decide +kernel) rfl⟩
theorem lm_law_67 : zLv "StatuteConsolidatorLaw" 67 0 m_mo_removeLastAmendment := ⟨⟨mk_mo_removeLastAmendment, by decide +kernel, Or.inl (zG_of 1103 (by decide +kernel) rfl)⟩, zG_of 1104 (by decide +kernel) rfl, zG_of 1105 (by decide +kernel) rfl⟩
theorem lm_law_68 : zLv "StatuteConsolidatorLaw" 68 1 m_sc_provisionCount := ⟨⟨mk_sc_provisionCount, by decide +kernel, Or.inl (zG_of 480 (by decide +kernel) rfl)⟩, zG_of 481 (by decide +kernel) rfl, zG_of 482 (by decide +kernel) rfl⟩
theorem lm_law_71 : zLv "StatuteConsolidatorLaw" 71 1 m_mo_provisionCount := ⟨⟨mk_mo_provisionCount, by decide +kernel, Or.inl (zG_of 1107 (by decide +kernel) rfl)⟩, zG_of 1108 (by decide +kernel) rfl, zG_of 1109 (by decide +kernel) rfl⟩
theorem lm_law_72 : zLv "StatuteConsolidatorLaw" 72 2 m_sc_levelAt := ⟨⟨mk_sc_levelAt, by decide +kernel, Or.inl (zG_of 567 (by decide +kernel) rfl)⟩, zG_of 568 (by decide +kernel) rfl, zG_of 569 (by decide +kernel) rfl⟩
theorem lm_law_75 : zLv "StatuteConsolidatorLaw" 75 2 m_mo_levelAt := ⟨⟨mk_mo_levelAt, by decide +kernel, Or.inl (zG_of 1159 (by decide +kernel) rfl)⟩, zG_of 1160 (by decide +kernel) rfl, zG_of 1161 (by decide +kernel) rfl⟩
theorem lm_law_76 : zLv "StatuteConsolidatorLaw" 76 2 m_sc_textAt := ⟨⟨mk_sc_textAt, by decide +kernel, Or.inl (zG_of 579 (by decide +kernel) rfl)⟩, zG_of 580 (by decide +kernel) rfl, zG_of 581 (by decide +kernel) rfl⟩
theorem lm_law_79 : zLv "StatuteConsolidatorLaw" 79 2 m_mo_textAt := ⟨⟨mk_mo_textAt, by decide +kernel, Or.inl (zG_of 1167 (by decide +kernel) rfl)⟩, zG_of 1168 (by decide +kernel) rfl, zG_of 1169 (by decide +kernel) rfl⟩
theorem lm_law_80 : zLv "StatuteConsolidatorLaw" 80 2 m_sc_isRepealedAt := ⟨⟨mk_sc_isRepealedAt, by decide +kernel, Or.inl (zG_of 583 (by decide +kernel) rfl)⟩, zG_of 584 (by decide +kernel) rfl, zG_of 585 (by decide +kernel) rfl⟩
theorem lm_law_83 : zLv "StatuteConsolidatorLaw" 83 2 m_mo_isRepealedAt := ⟨⟨mk_mo_isRepealedAt, by decide +kernel, Or.inl (zG_of 1171 (by decide +kernel) rfl)⟩, zG_of 1172 (by decide +kernel) rfl, zG_of 1173 (by decide +kernel) rfl⟩
theorem lm_law_84 : zLv "StatuteConsolidatorLaw" 84 2 m_sc_pathLengthAt := ⟨⟨mk_sc_pathLengthAt, by decide +kernel, Or.inl (zG_of 587 (by decide +kernel) rfl)⟩, zG_of 588 (by decide +kernel) rfl, zG_of 589 (by decide +kernel) rfl⟩
theorem lm_law_87 : zLv "StatuteConsolidatorLaw" 87 2 m_mo_pathLengthAt := ⟨⟨mk_mo_pathLengthAt, by decide +kernel, Or.inl (zG_of 1175 (by decide +kernel) rfl)⟩, zG_of 1176 (by decide +kernel) rfl, zG_of 1177 (by decide +kernel) rfl⟩
theorem lm_law_88 : zLv "StatuteConsolidatorLaw" 88 3 m_sc_pathCharacterAt := ⟨⟨mk_sc_pathCharacterAt, by decide +kernel, Or.inl (zG_of 605 (by decide +kernel) rfl)⟩, zG_of 606 (by decide +kernel) rfl, zG_of 607 (by decide +kernel) rfl⟩
theorem lm_law_92 : zLv "StatuteConsolidatorLaw" 92 3 m_mo_pathCharacterAt := ⟨⟨mk_mo_pathCharacterAt, by decide +kernel, Or.inl (zG_of 1191 (by decide +kernel) rfl)⟩, zG_of 1192 (by decide +kernel) rfl, zG_of 1193 (by decide +kernel) rfl⟩
theorem lm_law_93 : zLv "StatuteConsolidatorLaw" 93 2 m_sc_originAt := ⟨⟨mk_sc_originAt, by decide +kernel, Or.inl (zG_of 615 (by decide +kernel) rfl)⟩, zG_of 616 (by decide +kernel) rfl, zG_of 617 (by decide +kernel) rfl⟩
theorem lm_law_96 : zLv "StatuteConsolidatorLaw" 96 2 m_mo_originAt := ⟨⟨mk_mo_originAt, by decide +kernel, Or.inl (zG_of 1195 (by decide +kernel) rfl)⟩, zG_of 1196 (by decide +kernel) rfl, zG_of 1197 (by decide +kernel) rfl⟩
theorem lm_law_97 : zLv "StatuteConsolidatorLaw" 97 2 m_sc_creatorAt := ⟨⟨mk_sc_creatorAt, by decide +kernel, Or.inl (zG_of 619 (by decide +kernel) rfl)⟩, zG_of 620 (by decide +kernel) rfl, zG_of 621 (by decide +kernel) rfl⟩
theorem lm_law_100 : zLv "StatuteConsolidatorLaw" 100 2 m_mo_creatorAt := ⟨⟨mk_mo_creatorAt, by decide +kernel, Or.inl (zG_of 1199 (by decide +kernel) rfl)⟩, zG_of 1200 (by decide +kernel) rfl, zG_of 1201 (by decide +kernel) rfl⟩
theorem lm_law_101 : zLv "StatuteConsolidatorLaw" 101 1 m_sc_find := ⟨⟨mk_sc_find, by decide +kernel, Or.inl (zG_of 623 (by decide +kernel) rfl)⟩, zG_of 624 (by decide +kernel) rfl, zG_of 625 (by decide +kernel) rfl⟩
theorem lm_law_104 : zLv "StatuteConsolidatorLaw" 104 1 m_mo_find := ⟨⟨mk_mo_find, by decide +kernel, Or.inl (zG_of 1203 (by decide +kernel) rfl)⟩, zG_of 1204 (by decide +kernel) rfl, zG_of 1205 (by decide +kernel) rfl⟩
theorem lm_law_105 : zLv "StatuteConsolidatorLaw" 105 2 m_sc_firstDifference := ⟨⟨mk_sc_firstDifference, by decide +kernel, Or.inl (zG_of 632 (by decide +kernel) rfl)⟩, zG_of 633 (by decide +kernel) rfl, zG_of 634 (by decide +kernel) rfl⟩
theorem lm_law_108 : zLv "StatuteConsolidatorLaw" 108 2 m_mo_firstDifference := ⟨⟨mk_mo_firstDifference, by decide +kernel, Or.inl (zG_of 1211 (by decide +kernel) rfl)⟩, zG_of 1212 (by decide +kernel) rfl, zG_of 1213 (by decide +kernel) rfl⟩
theorem lm_law_109 : zLv "StatuteConsolidatorLaw" 109 2 m_sc_referenceCountAt := ⟨⟨mk_sc_referenceCountAt, by decide +kernel, Or.inl (zG_of 644 (by decide +kernel) rfl)⟩, zG_of 645 (by decide +kernel) rfl, zG_of 646 (by decide +kernel) rfl⟩
theorem lm_law_112 : zLv "StatuteConsolidatorLaw" 112 2 m_mo_referenceCountAt := ⟨⟨mk_mo_referenceCountAt, by decide +kernel, Or.inl (zG_of 1235 (by decide +kernel) rfl)⟩, zG_of 1236 (by decide +kernel) rfl, zG_of 1237 (by decide +kernel) rfl⟩
theorem lm_law_113 : zLv "StatuteConsolidatorLaw" 113 3 m_sc_referenceAt := ⟨⟨mk_sc_referenceAt, by decide +kernel, Or.inl (zG_of 653 (by decide +kernel) rfl)⟩, zG_of 654 (by decide +kernel) rfl, zG_of 655 (by decide +kernel) rfl⟩
theorem lm_law_116 : zLv "StatuteConsolidatorLaw" 116 3 m_mo_referenceAt := ⟨⟨mk_mo_referenceAt, by decide +kernel, Or.inl (zG_of 1243 (by decide +kernel) rfl)⟩, zG_of 1244 (by decide +kernel) rfl, zG_of 1245 (by decide +kernel) rfl⟩
theorem lm_law_117 : zLv "StatuteConsolidatorLaw" 117 1 m_sc_danglingCount := ⟨⟨mk_sc_danglingCount, by decide +kernel, Or.inl (zG_of 662 (by decide +kernel) rfl)⟩, zG_of 663 (by decide +kernel) rfl, zG_of 664 (by decide +kernel) rfl⟩
theorem lm_law_120 : zLv "StatuteConsolidatorLaw" 120 1 m_mo_danglingCount := ⟨⟨mk_mo_danglingCount, by decide +kernel, Or.inl (zG_of 1251 (by decide +kernel) rfl)⟩, zG_of 1252 (by decide +kernel) rfl, zG_of 1253 (by decide +kernel) rfl⟩
theorem lm_law_121 : zLv "StatuteConsolidatorLaw" 121 1 m_sc_conflictCount := ⟨⟨mk_sc_conflictCount, by decide +kernel, Or.inl (zG_of 670 (by decide +kernel) rfl)⟩, zG_of 671 (by decide +kernel) rfl, zG_of 672 (by decide +kernel) rfl⟩
theorem lm_law_124 : zLv "StatuteConsolidatorLaw" 124 1 m_mo_conflictCount := ⟨⟨mk_mo_conflictCount, by decide +kernel, Or.inl (zG_of 1255 (by decide +kernel) rfl)⟩, zG_of 1256 (by decide +kernel) rfl, zG_of 1257 (by decide +kernel) rfl⟩
theorem lm_law_125 : zLv "StatuteConsolidatorLaw" 125 2 m_sc_conflictAmendment := ⟨⟨mk_sc_conflictAmendment, by decide +kernel, Or.inl (zG_of 674 (by decide +kernel) rfl)⟩, zG_of 675 (by decide +kernel) rfl, zG_of 676 (by decide +kernel) rfl⟩
theorem lm_law_128 : zLv "StatuteConsolidatorLaw" 128 2 m_mo_conflictAmendment := ⟨⟨mk_mo_conflictAmendment, by decide +kernel, Or.inl (zG_of 1259 (by decide +kernel) rfl)⟩, zG_of 1260 (by decide +kernel) rfl, zG_of 1261 (by decide +kernel) rfl⟩
theorem lm_law_129 : zLv "StatuteConsolidatorLaw" 129 2 m_sc_conflictInstruction := ⟨⟨mk_sc_conflictInstruction, by decide +kernel, Or.inl (zG_of 682 (by decide +kernel) rfl)⟩, zG_of 683 (by decide +kernel) rfl, zG_of 684 (by decide +kernel) rfl⟩
theorem lm_law_132 : zLv "StatuteConsolidatorLaw" 132 2 m_mo_conflictInstruction := ⟨⟨mk_mo_conflictInstruction, by decide +kernel, Or.inl (zG_of 1267 (by decide +kernel) rfl)⟩, zG_of 1268 (by decide +kernel) rfl, zG_of 1269 (by decide +kernel) rfl⟩
theorem lm_law_133 : zLv "StatuteConsolidatorLaw" 133 2 m_sc_conflictReason := ⟨⟨mk_sc_conflictReason, by decide +kernel, Or.inl (zG_of 686 (by decide +kernel) rfl)⟩, zG_of 687 (by decide +kernel) rfl, zG_of 688 (by decide +kernel) rfl⟩
theorem lm_law_136 : zLv "StatuteConsolidatorLaw" 136 2 m_mo_conflictReason := ⟨⟨mk_mo_conflictReason, by decide +kernel, Or.inl (zG_of 1271 (by decide +kernel) rfl)⟩, zG_of 1272 (by decide +kernel) rfl, zG_of 1273 (by decide +kernel) rfl⟩
theorem lm_law_137 : zLv "StatuteConsolidatorLaw" 137 2 m_sc_doCommute := ⟨⟨mk_sc_doCommute, by decide +kernel, Or.inl (zG_of 690 (by decide +kernel) rfl)⟩, zG_of 691 (by decide +kernel) rfl, zG_of 692 (by decide +kernel) rfl⟩
theorem lm_law_140 : zLv "StatuteConsolidatorLaw" 140 2 m_mo_doCommute := ⟨⟨mk_mo_doCommute, by decide +kernel, Or.inl (zG_of 1231 (by decide +kernel) rfl)⟩, zG_of 1232 (by decide +kernel) rfl, zG_of 1233 (by decide +kernel) rfl⟩
theorem lm_law_141 : zLv "StatuteConsolidatorLaw" 141 1 m_sc_averageLevel := ⟨⟨mk_sc_averageLevel, by decide +kernel, Or.inl (zG_of 703 (by decide +kernel) rfl)⟩, zG_of 704 (by decide +kernel) rfl, zG_of 705 (by decide +kernel) rfl⟩
theorem lm_law_144 : zLv "StatuteConsolidatorLaw" 144 1 m_mo_averageLevel := ⟨⟨mk_mo_averageLevel, by decide +kernel, Or.inl (zG_of 1275 (by decide +kernel) rfl)⟩, zG_of 1276 (by decide +kernel) rfl, zG_of 1277 (by decide +kernel) rfl⟩
theorem lm_law_145 : zLv "StatuteConsolidatorLaw" 145 1 m_sc_repealedShare := ⟨⟨mk_sc_repealedShare, by decide +kernel, Or.inl (zG_of 712 (by decide +kernel) rfl)⟩, zG_of 713 (by decide +kernel) rfl, zG_of 714 (by decide +kernel) rfl⟩
theorem lm_law_149 : zLv "StatuteConsolidatorLaw" 149 1 m_mo_repealedShare := ⟨⟨mk_mo_repealedShare, by decide +kernel, Or.inl (zG_of 1289 (by decide +kernel) rfl)⟩, zG_of 1290 (by decide +kernel) rfl, zG_of 1291 (by decide +kernel) rfl⟩
theorem lm_law_150 : zLv "StatuteConsolidatorLaw" 150 3 m_sc_newShelf := ⟨⟨mk_sc_newShelf, by decide +kernel, Or.inl (zG_of 718 (by decide +kernel) rfl)⟩, zG_of 719 (by decide +kernel) rfl, zG_of 720 (by decide +kernel) rfl⟩
theorem lm_law_153 : zLv "StatuteConsolidatorLaw" 153 3 m_mo_newShelf := ⟨⟨mk_mo_newShelf, by decide +kernel, Or.inl (zG_of 1304 (by decide +kernel) rfl)⟩, zG_of 1305 (by decide +kernel) rfl, zG_of 1306 (by decide +kernel) rfl⟩
theorem lm_law_154 : zLv "StatuteConsolidatorLaw" 154 3 m_sc_place := ⟨⟨mk_sc_place, by decide +kernel, Or.inl (zG_of 729 (by decide +kernel) rfl)⟩, zG_of 730 (by decide +kernel) rfl, zG_of 731 (by decide +kernel) rfl⟩
theorem lm_law_157 : zLv "StatuteConsolidatorLaw" 157 3 m_mo_place := ⟨⟨mk_mo_place, by decide +kernel, Or.inl (zG_of 1311 (by decide +kernel) rfl)⟩, zG_of 1312 (by decide +kernel) rfl, zG_of 1313 (by decide +kernel) rfl⟩
theorem lm_law_158 : zLv "StatuteConsolidatorLaw" 158 2 m_sc_shelved := ⟨⟨mk_sc_shelved, by decide +kernel, Or.inl (zG_of 737 (by decide +kernel) rfl)⟩, zG_of 738 (by decide +kernel) rfl, zG_of 739 (by decide +kernel) rfl⟩
theorem lm_law_161 : zLv "StatuteConsolidatorLaw" 161 2 m_mo_shelved := ⟨⟨mk_mo_shelved, by decide +kernel, Or.inl (zG_of 1315 (by decide +kernel) rfl)⟩, zG_of 1316 (by decide +kernel) rfl, zG_of 1317 (by decide +kernel) rfl⟩
theorem lm_law_162 : zLv "StatuteConsolidatorLaw" 162 2 m_sc_copyShelf := ⟨⟨mk_sc_copyShelf, by decide +kernel, Or.inl (zG_of 741 (by decide +kernel) rfl)⟩, zG_of 742 (by decide +kernel) rfl, zG_of 743 (by decide +kernel) rfl⟩
theorem lm_law_165 : zLv "StatuteConsolidatorLaw" 165 2 m_mo_copyShelf := ⟨⟨mk_mo_copyShelf, by decide +kernel, Or.inl (zG_of 1319 (by decide +kernel) rfl)⟩, zG_of 1320 (by decide +kernel) rfl, zG_of 1321 (by decide +kernel) rfl⟩
theorem lm_law_166 : zLv "StatuteConsolidatorLaw" 166 0 m_sc_saveSnapshot := ⟨⟨mk_sc_saveSnapshot, by decide +kernel, Or.inl (zG_of 752 (by decide +kernel) rfl)⟩, zG_of 753 (by decide +kernel) rfl, zG_of 754 (by decide +kernel) rfl⟩
theorem lm_law_169 : zLv "StatuteConsolidatorLaw" 169 0 m_mo_saveSnapshot := ⟨⟨mk_mo_saveSnapshot, by decide +kernel, Or.inl (zG_of 1324 (by decide +kernel) rfl)⟩, zG_of 1325 (by decide +kernel) rfl, zG_of 1326 (by decide +kernel) rfl⟩
theorem lm_law_170 : zLv "StatuteConsolidatorLaw" 170 0 m_sc_restoreSnapshot := ⟨⟨mk_sc_restoreSnapshot, by decide +kernel, Or.inl (zG_of 767 (by decide +kernel) rfl)⟩, zG_of 768 (by decide +kernel) rfl, zG_of 769 (by decide +kernel) rfl⟩
theorem lm_law_173 : zLv "StatuteConsolidatorLaw" 173 0 m_mo_restoreSnapshot := ⟨⟨mk_mo_restoreSnapshot, by decide +kernel, Or.inl (zG_of 1335 (by decide +kernel) rfl)⟩, zG_of 1336 (by decide +kernel) rfl, zG_of 1337 (by decide +kernel) rfl⟩
theorem lo_mo_1 : Cond.methodLink "StatuteConsolidatorModel" 1 Lib.objectInit ∈ zG := zG_of 776 (by decide +kernel) rfl
theorem lf_mo_9 : zFl "StatuteConsolidatorModel" 9 7 0 := ⟨ck_mo, _, _, _, rfl, by decide, Or.inl (zG_of 780 (by decide +kernel) rfl)⟩
theorem lf_mo_13 : zFl "StatuteConsolidatorModel" 13 7 1 := ⟨ck_mo, _, _, _, rfl, by decide, Or.inl (zG_of 781 (by decide +kernel) rfl)⟩
theorem lf_mo_16 : zFl "StatuteConsolidatorModel" 16 7 2 := ⟨ck_mo, _, _, _, rfl, by decide, Or.inl (zG_of 782 (by decide +kernel) rfl)⟩
theorem lf_mo_19 : zFl "StatuteConsolidatorModel" 19 7 3 := ⟨ck_mo, _, _, _, rfl, by decide, Or.inl (zG_of 783 (by decide +kernel) rfl)⟩
theorem lf_mo_22 : zFl "StatuteConsolidatorModel" 22 7 4 := ⟨ck_mo, _, _, _, rfl, by decide, Or.inl (zG_of 784 (by decide +kernel) rfl)⟩
theorem lf_mo_25 : zFl "StatuteConsolidatorModel" 25 7 6 := ⟨ck_mo, _, _, _, rfl, by decide, Or.inl (zG_of 786 (by decide +kernel) rfl)⟩
theorem lf_mo_28 : zFl "StatuteConsolidatorModel" 28 7 7 := ⟨ck_mo, _, _, _, rfl, by decide, Or.inl (zG_of 787 (by decide +kernel) rfl)⟩
theorem lf_mo_31 : zFl "StatuteConsolidatorModel" 31 7 8 := ⟨ck_mo, _, _, _, rfl, by decide, Or.inl (zG_of 788 (by decide +kernel) rfl)⟩
theorem lf_mo_34 : zFl "StatuteConsolidatorModel" 34 7 9 := ⟨ck_mo, _, _, _, rfl, by decide, Or.inl (zG_of 789 (by decide +kernel) rfl)⟩
theorem lf_mo_37 : zFl "StatuteConsolidatorModel" 37 7 10 := ⟨ck_mo, _, _, _, rfl, by decide, Or.inl (zG_of 790 (by decide +kernel) rfl)⟩
theorem lf_mo_40 : zFl "StatuteConsolidatorModel" 40 7 12 := ⟨ck_mo, _, _, _, rfl, by decide, Or.inl (zG_of 792 (by decide +kernel) rfl)⟩
theorem lf_mo_43 : zFl "StatuteConsolidatorModel" 43 7 13 := ⟨ck_mo, _, _, _, rfl, by decide, Or.inl (zG_of 793 (by decide +kernel) rfl)⟩
theorem lf_mo_46 : zFl "StatuteConsolidatorModel" 46 7 14 := ⟨ck_mo, _, _, _, rfl, by decide, Or.inl (zG_of 794 (by decide +kernel) rfl)⟩
theorem lf_mo_49 : zFl "StatuteConsolidatorModel" 49 7 15 := ⟨ck_mo, _, _, _, rfl, by decide, Or.inl (zG_of 795 (by decide +kernel) rfl)⟩
theorem lf_mo_52 : zFl "StatuteConsolidatorModel" 52 7 16 := ⟨ck_mo, _, _, _, rfl, by decide, Or.inl (zG_of 796 (by decide +kernel) rfl)⟩
theorem lf_mo_55 : zFl "StatuteConsolidatorModel" 55 7 17 := ⟨ck_mo, _, _, _, rfl, by decide, Or.inl (zG_of 797 (by decide +kernel) rfl)⟩
theorem lf_mo_58 : zFl "StatuteConsolidatorModel" 58 7 18 := ⟨ck_mo, _, _, _, rfl, by decide, Or.inl (zG_of 798 (by decide +kernel) rfl)⟩
theorem lf_mo_62 : zFl "StatuteConsolidatorModel" 62 7 19 := ⟨ck_mo, _, _, _, rfl, by decide, Or.inl (zG_of 799 (by decide +kernel) rfl)⟩
theorem lf_mo_65 : zFl "StatuteConsolidatorModel" 65 7 22 := ⟨ck_mo, _, _, _, rfl, by decide, Or.inl (zG_of 802 (by decide +kernel) rfl)⟩
theorem lf_mo_68 : zFl "StatuteConsolidatorModel" 68 7 23 := ⟨ck_mo, _, _, _, rfl, by decide, Or.inl (zG_of 803 (by decide +kernel) rfl)⟩
theorem lf_mo_71 : zFl "StatuteConsolidatorModel" 71 7 24 := ⟨ck_mo, _, _, _, rfl, by decide, Or.inl (zG_of 804 (by decide +kernel) rfl)⟩
theorem lf_mo_74 : zFl "StatuteConsolidatorModel" 74 7 25 := ⟨ck_mo, _, _, _, rfl, by decide, Or.inl (zG_of 805 (by decide +kernel) rfl)⟩
theorem lf_mo_77 : zFl "StatuteConsolidatorModel" 77 7 27 := ⟨ck_mo, _, _, _, rfl, by decide, Or.inl (zG_of 807 (by decide +kernel) rfl)⟩
theorem lf_mo_80 : zFl "StatuteConsolidatorModel" 80 7 32 := ⟨ck_mo, _, _, _, rfl, by decide, Or.inl (zG_of 812 (by decide +kernel) rfl)⟩
theorem lf_mo_83 : zFl "StatuteConsolidatorModel" 83 7 33 := ⟨ck_mo, _, _, _, rfl, by decide, Or.inl (zG_of 813 (by decide +kernel) rfl)⟩
theorem lf_mo_86 : zFl "StatuteConsolidatorModel" 86 7 35 := ⟨ck_mo, _, _, _, rfl, by decide, Or.inl (zG_of 815 (by decide +kernel) rfl)⟩
theorem lf_mo_89 : zFl "StatuteConsolidatorModel" 89 7 36 := ⟨ck_mo, _, _, _, rfl, by decide, Or.inl (zG_of 816 (by decide +kernel) rfl)⟩
theorem lf_mo_92 : zFl "StatuteConsolidatorModel" 92 7 37 := ⟨ck_mo, _, _, _, rfl, by decide, Or.inl (zG_of 817 (by decide +kernel) rfl)⟩
theorem lf_mo_95 : zFl "StatuteConsolidatorModel" 95 7 38 := ⟨ck_mo, _, _, _, rfl, by decide, Or.inl (zG_of 818 (by decide +kernel) rfl)⟩
theorem lf_mo_98 : zFl "StatuteConsolidatorModel" 98 7 39 := ⟨ck_mo, _, _, _, rfl, by decide, Or.inl (zG_of 819 (by decide +kernel) rfl)⟩
theorem lm_mo_101_3 : zLt "StatuteConsolidatorModel" 101 1 m_mo_emptyRow3 := ⟨⟨mk_mo_emptyRow3, by decide +kernel, Or.inl (zG_of 777 (by decide +kernel) rfl)⟩, zG_of 778 (by decide +kernel) rfl⟩
theorem lm_mo_101_30 : zLt "StatuteConsolidatorModel" 101 1 m_mo_emptyRow30 := ⟨⟨mk_mo_emptyRow30, by decide +kernel, Or.inl (zG_of 777 (by decide +kernel) rfl)⟩, zG_of 778 (by decide +kernel) rfl⟩
theorem lf_mo_105 : zFl "StatuteConsolidatorModel" 105 7 41 := ⟨ck_mo, _, _, _, rfl, by decide, Or.inl (zG_of 821 (by decide +kernel) rfl)⟩
theorem lf_mo_108 : zFl "StatuteConsolidatorModel" 108 7 42 := ⟨ck_mo, _, _, _, rfl, by decide, Or.inl (zG_of 822 (by decide +kernel) rfl)⟩
theorem lf_mo_111 : zFl "StatuteConsolidatorModel" 111 7 43 := ⟨ck_mo, _, _, _, rfl, by decide, Or.inl (zG_of 823 (by decide +kernel) rfl)⟩
theorem lf_mo_114 : zFl "StatuteConsolidatorModel" 114 7 44 := ⟨ck_mo, _, _, _, rfl, by decide, Or.inl (zG_of 824 (by decide +kernel) rfl)⟩
theorem lf_mo_117 : zFl "StatuteConsolidatorModel" 117 7 45 := ⟨ck_mo, _, _, _, rfl, by decide, Or.inl (zG_of 825 (by decide +kernel) rfl)⟩
theorem lf_mo_120 : zFl "StatuteConsolidatorModel" 120 7 46 := ⟨ck_mo, _, _, _, rfl, by decide, Or.inl (zG_of 826 (by decide +kernel) rfl)⟩
theorem lf_mo_123 : zFl "StatuteConsolidatorModel" 123 7 47 := ⟨ck_mo, _, _, _, rfl, by decide, Or.inl (zG_of 827 (by decide +kernel) rfl)⟩
theorem lf_mo_126 : zFl "StatuteConsolidatorModel" 126 7 48 := ⟨ck_mo, _, _, _, rfl, by decide, Or.inl (zG_of 828 (by decide +kernel) rfl)⟩
theorem lf_mo_129 : zFl "StatuteConsolidatorModel" 129 7 49 := ⟨ck_mo, _, _, _, rfl, by decide, Or.inl (zG_of 829 (by decide +kernel) rfl)⟩
theorem lf_mo_132 : zFl "StatuteConsolidatorModel" 132 7 50 := ⟨ck_mo, _, _, _, rfl, by decide, Or.inl (zG_of 830 (by decide +kernel) rfl)⟩
theorem lf_mo_135 : zFl "StatuteConsolidatorModel" 135 7 51 := ⟨ck_mo, _, _, _, rfl, by decide, Or.inl (zG_of 831 (by decide +kernel) rfl)⟩
theorem lf_mo_138 : zFl "StatuteConsolidatorModel" 138 7 52 := ⟨ck_mo, _, _, _, rfl, by decide, Or.inl (zG_of 832 (by decide +kernel) rfl)⟩
theorem lf_mo_141 : zFl "StatuteConsolidatorModel" 141 7 53 := ⟨ck_mo, _, _, _, rfl, by decide, Or.inl (zG_of 833 (by decide +kernel) rfl)⟩
theorem lf_mo_144 : zFl "StatuteConsolidatorModel" 144 7 20 := ⟨ck_mo, _, _, _, rfl, by decide, Or.inl (zG_of 800 (by decide +kernel) rfl)⟩
theorem lf_mo_148 : zFl "StatuteConsolidatorModel" 148 7 21 := ⟨ck_mo, _, _, _, rfl, by decide, Or.inl (zG_of 801 (by decide +kernel) rfl)⟩
theorem lf_mo_151 : zFl "StatuteConsolidatorModel" 151 7 26 := ⟨ck_mo, _, _, _, rfl, by decide, Or.inl (zG_of 806 (by decide +kernel) rfl)⟩
theorem lf_mo_154 : zFl "StatuteConsolidatorModel" 154 7 5 := ⟨ck_mo, _, _, _, rfl, by decide, Or.inl (zG_of 785 (by decide +kernel) rfl)⟩
theorem lm_mo_157 : zLv "StatuteConsolidatorModel" 157 1 m_mo_levelOf := ⟨⟨mk_mo_levelOf, by decide +kernel, Or.inl (zG_of 963 (by decide +kernel) rfl)⟩, zG_of 965 (by decide +kernel) rfl, zG_sel 57 (by decide +kernel) rfl⟩
theorem lm_mo_161 : zLv "StatuteConsolidatorModel" 161 6 m_mo_newNode := ⟨⟨mk_mo_newNode, by decide +kernel, Or.inl (zG_of 971 (by decide +kernel) rfl)⟩, zG_of 973 (by decide +kernel) rfl, zG_sel 59 (by decide +kernel) rfl⟩
theorem lm_mo_165 : zLv "StatuteConsolidatorModel" 165 2 m_mo_nextChild := ⟨⟨mk_mo_nextChild, by decide +kernel, Or.inl (zG_of 995 (by decide +kernel) rfl)⟩, zG_of 997 (by decide +kernel) rfl, zG_sel 64 (by decide +kernel) rfl⟩
theorem lf_mo_169 : zFl "StatuteConsolidatorModel" 169 7 29 := ⟨ck_mo, _, _, _, rfl, by decide, Or.inl (zG_of 809 (by decide +kernel) rfl)⟩
theorem lm_mo_172 : zLv "StatuteConsolidatorModel" 172 1 m_mo_orderChildren := ⟨⟨mk_mo_orderChildren, by decide +kernel, Or.inl (zG_of 1155 (by decide +kernel) rfl)⟩, zG_of 1157 (by decide +kernel) rfl, zG_sel 87 (by decide +kernel) rfl⟩
theorem lm_mo_176 : zLt "StatuteConsolidatorModel" 176 1 m_mo_isSuffix := ⟨⟨mk_mo_isSuffix, by decide +kernel, Or.inl (zG_of 1002 (by decide +kernel) rfl)⟩, zG_of 1003 (by decide +kernel) rfl⟩
theorem lm_mo_180 : zLt "StatuteConsolidatorModel" 180 1 m_mo_suffixLength := ⟨⟨mk_mo_suffixLength, by decide +kernel, Or.inl (zG_of 1005 (by decide +kernel) rfl)⟩, zG_of 1006 (by decide +kernel) rfl⟩
theorem lm_mo_183 : zLt "StatuteConsolidatorModel" 183 2 m_mo_suffixBetween := ⟨⟨mk_mo_suffixBetween, by decide +kernel, Or.inl (zG_of 999 (by decide +kernel) rfl)⟩, zG_of 1000 (by decide +kernel) rfl⟩
theorem lm_mo_186 : zLv "StatuteConsolidatorModel" 186 1 m_mo_lastChild := ⟨⟨mk_mo_lastChild, by decide +kernel, Or.inl (zG_of 979 (by decide +kernel) rfl)⟩, zG_of 981 (by decide +kernel) rfl, zG_sel 61 (by decide +kernel) rfl⟩
theorem lm_mo_189 : zLt "StatuteConsolidatorModel" 189 3 m_mo_in := ⟨⟨mk_mo_in, by decide +kernel, Or.inl (zG_of 960 (by decide +kernel) rfl)⟩, zG_of 961 (by decide +kernel) rfl⟩
theorem lm_mo_193 : zLv "StatuteConsolidatorModel" 193 1 m_mo_isOriginal := ⟨⟨mk_mo_isOriginal, by decide +kernel, Or.inl (zG_of 956 (by decide +kernel) rfl)⟩, zG_of 958 (by decide +kernel) rfl, zG_sel 56 (by decide +kernel) rfl⟩
theorem lm_mo_196 : zLv "StatuteConsolidatorModel" 196 0 m_mo_beginVersion := ⟨⟨mk_mo_beginVersion, by decide +kernel, Or.inl (zG_of 967 (by decide +kernel) rfl)⟩, zG_of 969 (by decide +kernel) rfl, zG_sel 58 (by decide +kernel) rfl⟩
theorem lm_mo_199 : zLv "StatuteConsolidatorModel" 199 1 m_mo_labelAtEnd := ⟨⟨mk_mo_labelAtEnd, by decide +kernel, Or.inl (zG_of 975 (by decide +kernel) rfl)⟩, zG_of 977 (by decide +kernel) rfl, zG_sel 60 (by decide +kernel) rfl⟩
theorem lm_mo_202 : zLv "StatuteConsolidatorModel" 202 3 m_mo_addOriginal := ⟨⟨mk_mo_addOriginal, by decide +kernel, Or.inl (zG_of 983 (by decide +kernel) rfl)⟩, zG_of 985 (by decide +kernel) rfl, zG_sel 62 (by decide +kernel) rfl⟩
theorem lm_mo_206 : zLv "StatuteConsolidatorModel" 206 1 m_mo_labelAfter := ⟨⟨mk_mo_labelAfter, by decide +kernel, Or.inl (zG_of 991 (by decide +kernel) rfl)⟩, zG_of 993 (by decide +kernel) rfl, zG_sel 63 (by decide +kernel) rfl⟩
theorem lf_mo_209 : zFl "StatuteConsolidatorModel" 209 7 11 := ⟨ck_mo, _, _, _, rfl, by decide, Or.inl (zG_of 791 (by decide +kernel) rfl)⟩
theorem lm_mo_212 : zLv "StatuteConsolidatorModel" 212 0 m_mo_emptyShelves := ⟨⟨mk_mo_emptyShelves, by decide +kernel, Or.inl (zG_of 1020 (by decide +kernel) rfl)⟩, zG_of 1022 (by decide +kernel) rfl, zG_sel 65 (by decide +kernel) rfl⟩
theorem lf_mo_215 : zFl "StatuteConsolidatorModel" 215 7 28 := ⟨ck_mo, _, _, _, rfl, by decide, Or.inl (zG_of 808 (by decide +kernel) rfl)⟩
theorem lf_mo_218 : zFl "StatuteConsolidatorModel" 218 7 30 := ⟨ck_mo, _, _, _, rfl, by decide, Or.inl (zG_of 810 (by decide +kernel) rfl)⟩
theorem lf_mo_221 : zFl "StatuteConsolidatorModel" 221 7 31 := ⟨ck_mo, _, _, _, rfl, by decide, Or.inl (zG_of 811 (by decide +kernel) rfl)⟩
theorem lm_mo_225 : zLv "StatuteConsolidatorModel" 225 2 m_mo_isNext := ⟨⟨mk_mo_isNext, by decide +kernel, Or.inl (zG_of 1071 (by decide +kernel) rfl)⟩, zG_of 1073 (by decide +kernel) rfl, zG_sel 71 (by decide +kernel) rfl⟩
theorem lm_mo_229 : zLv "StatuteConsolidatorModel" 229 1 m_mo_accept := ⟨⟨mk_mo_accept, by decide +kernel, Or.inl (zG_of 1075 (by decide +kernel) rfl)⟩, zG_of 1077 (by decide +kernel) rfl, zG_sel 72 (by decide +kernel) rfl⟩
theorem lm_mo_232 : zLv "StatuteConsolidatorModel" 232 0 m_mo_parseLabel := ⟨⟨mk_mo_parseLabel, by decide +kernel, Or.inl (zG_of 1067 (by decide +kernel) rfl)⟩, zG_of 1069 (by decide +kernel) rfl, zG_sel 70 (by decide +kernel) rfl⟩
theorem lm_mo_236 : zLv "StatuteConsolidatorModel" 236 1 m_mo_expect := ⟨⟨mk_mo_expect, by decide +kernel, Or.inl (zG_of 1079 (by decide +kernel) rfl)⟩, zG_of 1081 (by decide +kernel) rfl, zG_sel 73 (by decide +kernel) rfl⟩
theorem lm_mo_251 : zLt "StatuteConsolidatorModel" 251 1 m_mo_keyword := ⟨⟨mk_mo_keyword, by decide +kernel, Or.inl (zG_of 1052 (by decide +kernel) rfl)⟩, zG_of 1053 (by decide +kernel) rfl⟩
theorem lm_mo_255 : zLv "StatuteConsolidatorModel" 255 1 m_js_charAt := ⟨⟨mk_js_charAt, by decide +kernel, Or.inl (zG_of 1061 (by decide +kernel) rfl)⟩, zG_of 391 (by decide +kernel) rfl, zG_of 392 (by decide +kernel) rfl⟩
theorem lm_mo_261 : zLv "StatuteConsolidatorModel" 261 0 m_js_length := ⟨⟨mk_js_length, by decide +kernel, Or.inl (zG_of 1062 (by decide +kernel) rfl)⟩, zG_of 380 (by decide +kernel) rfl, zG_of 381 (by decide +kernel) rfl⟩
theorem lm_mo_263 : zLv "StatuteConsolidatorModel" 263 0 m_mo_parseKeyword := ⟨⟨mk_mo_parseKeyword, by decide +kernel, Or.inl (zG_of 1048 (by decide +kernel) rfl)⟩, zG_of 1050 (by decide +kernel) rfl, zG_sel 68 (by decide +kernel) rfl⟩
theorem lm_mo_266 : zLv "StatuteConsolidatorModel" 266 2 m_mo_parsePath := ⟨⟨mk_mo_parsePath, by decide +kernel, Or.inl (zG_of 1063 (by decide +kernel) rfl)⟩, zG_of 1065 (by decide +kernel) rfl, zG_sel 69 (by decide +kernel) rfl⟩
theorem lm_mo_270 : zLv "StatuteConsolidatorModel" 270 0 m_mo_parseNumber := ⟨⟨mk_mo_parseNumber, by decide +kernel, Or.inl (zG_of 1083 (by decide +kernel) rfl)⟩, zG_of 1085 (by decide +kernel) rfl, zG_sel 74 (by decide +kernel) rfl⟩
theorem lm_mo_273 : zLv "StatuteConsolidatorModel" 273 1 m_mo_readAmendment := ⟨⟨mk_mo_readAmendment, by decide +kernel, Or.inl (zG_of 1040 (by decide +kernel) rfl)⟩, zG_of 1042 (by decide +kernel) rfl, zG_sel 66 (by decide +kernel) rfl⟩
theorem lm_mo_276 : zLv "StatuteConsolidatorModel" 276 1 m_mo_parseInstruction := ⟨⟨mk_mo_parseInstruction, by decide +kernel, Or.inl (zG_of 1044 (by decide +kernel) rfl)⟩, zG_of 1046 (by decide +kernel) rfl, zG_sel 67 (by decide +kernel) rfl⟩
theorem lm_mo_279 : zLv "StatuteConsolidatorModel" 279 1 m_mo_isAmendment := ⟨⟨mk_mo_isAmendment, by decide +kernel, Or.inl (zG_of 1095 (by decide +kernel) rfl)⟩, zG_of 1097 (by decide +kernel) rfl, zG_sel 75 (by decide +kernel) rfl⟩
theorem lm_mo_282 : zLv "StatuteConsolidatorModel" 282 2 m_mo_isBelow := ⟨⟨mk_mo_isBelow, by decide +kernel, Or.inl (zG_of 1135 (by decide +kernel) rfl)⟩, zG_of 1137 (by decide +kernel) rfl, zG_sel 82 (by decide +kernel) rfl⟩
theorem lm_mo_285 : zLv "StatuteConsolidatorModel" 285 1 m_mo_remove := ⟨⟨mk_mo_remove, by decide +kernel, Or.inl (zG_of 1143 (by decide +kernel) rfl)⟩, zG_of 1145 (by decide +kernel) rfl, zG_sel 84 (by decide +kernel) rfl⟩
theorem lm_mo_288 : zLv "StatuteConsolidatorModel" 288 2 m_mo_lookUp := ⟨⟨mk_mo_lookUp, by decide +kernel, Or.inl (zG_of 1127 (by decide +kernel) rfl)⟩, zG_of 1129 (by decide +kernel) rfl, zG_sel 80 (by decide +kernel) rfl⟩
theorem lm_mo_292 : zLv "StatuteConsolidatorModel" 292 1 m_mo_repeal := ⟨⟨mk_mo_repeal, by decide +kernel, Or.inl (zG_of 1131 (by decide +kernel) rfl)⟩, zG_of 1133 (by decide +kernel) rfl, zG_sel 81 (by decide +kernel) rfl⟩
theorem lm_mo_295 : zLv "StatuteConsolidatorModel" 295 1 m_mo_renumber := ⟨⟨mk_mo_renumber, by decide +kernel, Or.inl (zG_of 1139 (by decide +kernel) rfl)⟩, zG_of 1141 (by decide +kernel) rfl, zG_sel 83 (by decide +kernel) rfl⟩
theorem lm_mo_298 : zLv "StatuteConsolidatorModel" 298 2 m_mo_move := ⟨⟨mk_mo_move, by decide +kernel, Or.inl (zG_of 1147 (by decide +kernel) rfl)⟩, zG_of 1149 (by decide +kernel) rfl, zG_sel 85 (by decide +kernel) rfl⟩
theorem lm_mo_301 : zLv "StatuteConsolidatorModel" 301 2 m_mo_apply := ⟨⟨mk_mo_apply, by decide +kernel, Or.inl (zG_of 1123 (by decide +kernel) rfl)⟩, zG_of 1125 (by decide +kernel) rfl, zG_sel 79 (by decide +kernel) rfl⟩
theorem lm_mo_304 : zLv "StatuteConsolidatorModel" 304 2 m_mo_nextDay := ⟨⟨mk_mo_nextDay, by decide +kernel, Or.inl (zG_of 1115 (by decide +kernel) rfl)⟩, zG_of 1117 (by decide +kernel) rfl, zG_sel 77 (by decide +kernel) rfl⟩
theorem lm_mo_307 : zLv "StatuteConsolidatorModel" 307 1 m_mo_applyAmendment := ⟨⟨mk_mo_applyAmendment, by decide +kernel, Or.inl (zG_of 1119 (by decide +kernel) rfl)⟩, zG_of 1121 (by decide +kernel) rfl, zG_sel 78 (by decide +kernel) rfl⟩
theorem lm_mo_310 : zLv "StatuteConsolidatorModel" 310 0 m_mo_orderVersion := ⟨⟨mk_mo_orderVersion, by decide +kernel, Or.inl (zG_of 1151 (by decide +kernel) rfl)⟩, zG_of 1153 (by decide +kernel) rfl, zG_sel 86 (by decide +kernel) rfl⟩
theorem lm_mo_313 : zLv "StatuteConsolidatorModel" 313 1 m_mo_compute := ⟨⟨mk_mo_compute, by decide +kernel, Or.inl (zG_of 1111 (by decide +kernel) rfl)⟩, zG_of 1113 (by decide +kernel) rfl, zG_sel 76 (by decide +kernel) rfl⟩
theorem lm_mo_316 : zLv "StatuteConsolidatorModel" 316 2 m_mo_reach := ⟨⟨mk_mo_reach, by decide +kernel, Or.inl (zG_of 1163 (by decide +kernel) rfl)⟩, zG_of 1165 (by decide +kernel) rfl, zG_sel 88 (by decide +kernel) rfl⟩
theorem lf_mo_319 : zFl "StatuteConsolidatorModel" 319 7 34 := ⟨ck_mo, _, _, _, rfl, by decide, Or.inl (zG_of 814 (by decide +kernel) rfl)⟩
theorem lm_mo_322 : zLv "StatuteConsolidatorModel" 322 1 m_mo_write := ⟨⟨mk_mo_write, by decide +kernel, Or.inl (zG_of 1187 (by decide +kernel) rfl)⟩, zG_of 1189 (by decide +kernel) rfl, zG_sel 91 (by decide +kernel) rfl⟩
theorem lm_mo_325 : zLv "StatuteConsolidatorModel" 325 1 m_mo_writeLabel := ⟨⟨mk_mo_writeLabel, by decide +kernel, Or.inl (zG_of 1183 (by decide +kernel) rfl)⟩, zG_of 1185 (by decide +kernel) rfl, zG_sel 90 (by decide +kernel) rfl⟩
theorem lm_mo_328 : zLv "StatuteConsolidatorModel" 328 1 m_mo_writePath := ⟨⟨mk_mo_writePath, by decide +kernel, Or.inl (zG_of 1179 (by decide +kernel) rfl)⟩, zG_of 1181 (by decide +kernel) rfl, zG_sel 89 (by decide +kernel) rfl⟩
theorem lm_mo_331 : zLv "StatuteConsolidatorModel" 331 1 m_mo_positionOf := ⟨⟨mk_mo_positionOf, by decide +kernel, Or.inl (zG_of 1207 (by decide +kernel) rfl)⟩, zG_of 1209 (by decide +kernel) rfl, zG_sel 92 (by decide +kernel) rfl⟩
theorem lf_mo_334 : zFl "StatuteConsolidatorModel" 334 7 40 := ⟨ck_mo, _, _, _, rfl, by decide, Or.inl (zG_of 820 (by decide +kernel) rfl)⟩
theorem lm_mo_337 : zLv "StatuteConsolidatorModel" 337 2 m_mo_labelAt := ⟨⟨mk_mo_labelAt, by decide +kernel, Or.inl (zG_of 1219 (by decide +kernel) rfl)⟩, zG_of 1221 (by decide +kernel) rfl, zG_sel 94 (by decide +kernel) rfl⟩
theorem lm_mo_340 : zLv "StatuteConsolidatorModel" 340 2 m_mo_isKept := ⟨⟨mk_mo_isKept, by decide +kernel, Or.inl (zG_of 1227 (by decide +kernel) rfl)⟩, zG_of 1229 (by decide +kernel) rfl, zG_sel 96 (by decide +kernel) rfl⟩
theorem lm_mo_344 : zLv "StatuteConsolidatorModel" 344 0 m_mo_keep := ⟨⟨mk_mo_keep, by decide +kernel, Or.inl (zG_of 1215 (by decide +kernel) rfl)⟩, zG_of 1217 (by decide +kernel) rfl, zG_sel 93 (by decide +kernel) rfl⟩
theorem lm_mo_347 : zLv "StatuteConsolidatorModel" 347 1 m_mo_firstUnlike := ⟨⟨mk_mo_firstUnlike, by decide +kernel, Or.inl (zG_of 1223 (by decide +kernel) rfl)⟩, zG_of 1225 (by decide +kernel) rfl, zG_sel 95 (by decide +kernel) rfl⟩
theorem lm_mo_351 : zLv "StatuteConsolidatorModel" 351 1 m_mo_referencesOf := ⟨⟨mk_mo_referencesOf, by decide +kernel, Or.inl (zG_of 1239 (by decide +kernel) rfl)⟩, zG_of 1241 (by decide +kernel) rfl, zG_sel 97 (by decide +kernel) rfl⟩
theorem lm_mo_354 : zLv "StatuteConsolidatorModel" 354 1 m_mo_isDangling := ⟨⟨mk_mo_isDangling, by decide +kernel, Or.inl (zG_of 1247 (by decide +kernel) rfl)⟩, zG_of 1249 (by decide +kernel) rfl, zG_sel 98 (by decide +kernel) rfl⟩
theorem lm_mo_357 : zLv "StatuteConsolidatorModel" 357 2 m_mo_reachConflict := ⟨⟨mk_mo_reachConflict, by decide +kernel, Or.inl (zG_of 1263 (by decide +kernel) rfl)⟩, zG_of 1265 (by decide +kernel) rfl, zG_sel 99 (by decide +kernel) rfl⟩
theorem lm_mo_360 : zLt "StatuteConsolidatorModel" 360 1 m_jf_floatToIntBits := ⟨⟨mk_jf_floatToIntBits, by decide +kernel, Or.inl (zG_of 1279 (by decide +kernel) rfl)⟩, zG_of 1280 (by decide +kernel) rfl⟩
theorem lm_mo_368 : zLt "StatuteConsolidatorModel" 368 1 m_jd_doubleToLongBits := ⟨⟨mk_jd_doubleToLongBits, by decide +kernel, Or.inl (zG_of 1294 (by decide +kernel) rfl)⟩, zG_of 1295 (by decide +kernel) rfl⟩
theorem lm_mo_374 : zLt "StatuteConsolidatorModel" 374 1 m_mo_isShelf := ⟨⟨mk_mo_isShelf, by decide +kernel, Or.inl (zG_of 1308 (by decide +kernel) rfl)⟩, zG_of 1309 (by decide +kernel) rfl⟩
theorem lc_mo_377 : zCpW "StatuteConsolidatorModel" 377 := ⟨zG_of 1323 (by decide +kernel) rfl, zG_of 751 (by decide +kernel) rfl, zG_of 750 (by decide +kernel) rfl, zG_of 17 (by decide +kernel) rfl⟩
theorem lm_mo_383 : zLt "StatuteConsolidatorModel" 383 3 m_mo_exchange := ⟨⟨mk_mo_exchange, by decide +kernel, Or.inl (zG_of 1332 (by decide +kernel) rfl)⟩, zG_of 1333 (by decide +kernel) rfl⟩
theorem lm_mo_387 : zLv "StatuteConsolidatorModel" 387 1 m_mo_exchangeAll := ⟨⟨mk_mo_exchangeAll, by decide +kernel, Or.inl (zG_of 1328 (by decide +kernel) rfl)⟩, zG_of 1330 (by decide +kernel) rfl, zG_sel 100 (by decide +kernel) rfl⟩
theorem lf_mo_391 : zFl "StatuteConsolidatorModel" 391 7 54 := ⟨ck_mo, _, _, _, rfl, by decide, Or.inl (zG_of 834 (by decide +kernel) rfl)⟩
theorem lf_mo_394 : zFl "StatuteConsolidatorModel" 394 7 55 := ⟨ck_mo, _, _, _, rfl, by decide, Or.inl (zG_of 835 (by decide +kernel) rfl)⟩
theorem lf_mo_397 : zFl "StatuteConsolidatorModel" 397 7 56 := ⟨ck_mo, _, _, _, rfl, by decide, Or.inl (zG_of 836 (by decide +kernel) rfl)⟩
theorem lm_jd_122 : zLt "java/lang/Double" 122 1 m_jd_isNaN := ⟨⟨mk_jd_isNaN, by decide +kernel, Or.inl (zG_of 1297 (by decide +kernel) rfl)⟩, zG_of 1298 (by decide +kernel) rfl⟩
theorem lr_jd_134 : zRaw "java/lang/Double" 134 ⟨"java/lang/Double", "doubleToRawLongBits", "(D)J"⟩ := ⟨zG_of 1300 (by decide +kernel) rfl, zG_of 1302 (by decide +kernel) rfl, zG_of 1301 (by decide +kernel) rfl, zG_of 16 (by decide +kernel) rfl⟩
theorem lm_jf_59 : zLt "java/lang/Float" 59 1 m_jf_isNaN := ⟨⟨mk_jf_isNaN, by decide +kernel, Or.inl (zG_of 1282 (by decide +kernel) rfl)⟩, zG_of 1283 (by decide +kernel) rfl⟩
theorem lr_jf_74 : zRaw "java/lang/Float" 74 ⟨"java/lang/Float", "floatToRawIntBits", "(F)I"⟩ := ⟨zG_of 1285 (by decide +kernel) rfl, zG_of 1287 (by decide +kernel) rfl, zG_of 1286 (by decide +kernel) rfl, zG_of 15 (by decide +kernel) rfl⟩
theorem lm_js_335 : zLv "java/lang/String" 335 0 m_js_coder := ⟨⟨mk_js_coder, by decide +kernel, Or.inl (zG_of 383 (by decide +kernel) rfl)⟩, zG_of 384 (by decide +kernel) rfl, zG_of 385 (by decide +kernel) rfl⟩
theorem lm_js_492 : zLv "java/lang/String" 492 0 m_js_isLatin1 := ⟨⟨mk_js_isLatin1, by decide +kernel, Or.inl (zG_of 394 (by decide +kernel) rfl)⟩, zG_of 395 (by decide +kernel) rfl, zG_of 396 (by decide +kernel) rfl⟩
theorem lm_js_495 : zLt "java/lang/String" 495 2 m_jl_charAt := ⟨⟨mk_jl_charAt, by decide +kernel, Or.inl (zG_of 398 (by decide +kernel) rfl)⟩, zG_of 399 (by decide +kernel) rfl⟩
theorem lm_js_498 : zLt "java/lang/String" 498 2 m_ju_charAt := ⟨⟨mk_ju_charAt, by decide +kernel, Or.inl (zG_of 409 (by decide +kernel) rfl)⟩, zG_of 410 (by decide +kernel) rfl⟩
theorem lm_js_1059 : zLt "java/lang/String" 1059 3 m_jp_checkIndex := ⟨⟨mk_jp_checkIndex, by decide +kernel, Or.inl (zG_of 406 (by decide +kernel) rfl)⟩, zG_of 407 (by decide +kernel) rfl⟩
theorem lm_jl_9 : zLt "java/lang/StringLatin1" 9 2 m_js_checkIndex := ⟨⟨mk_js_checkIndex, by decide +kernel, Or.inl (zG_of 401 (by decide +kernel) rfl)⟩, zG_of 402 (by decide +kernel) rfl⟩
theorem lm_ju_48 : zLt "java/lang/StringUTF16" 48 1 m_ju_length := ⟨⟨mk_ju_length, by decide +kernel, Or.inl (zG_of 415 (by decide +kernel) rfl)⟩, zG_of 416 (by decide +kernel) rfl⟩
theorem lm_ju_67 : zLt "java/lang/StringUTF16" 67 2 m_ju_checkIndex := ⟨⟨mk_ju_checkIndex, by decide +kernel, Or.inl (zG_of 412 (by decide +kernel) rfl)⟩, zG_of 413 (by decide +kernel) rfl⟩
theorem lm_ju_71 : zLt "java/lang/StringUTF16" 71 2 m_ju_getChar := ⟨⟨mk_ju_getChar, by decide +kernel, Or.inl (zG_of 419 (by decide +kernel) rfl)⟩, zG_of 420 (by decide +kernel) rfl⟩
theorem lm_ju_414 : zLt "java/lang/StringUTF16" 414 2 m_js_checkIndex := ⟨⟨mk_js_checkIndex, by decide +kernel, Or.inl (zG_of 418 (by decide +kernel) rfl)⟩, zG_of 402 (by decide +kernel) rfl⟩
theorem wst_min : Cond.static Lib.Math.min.name ∈ zG := zG_of 306 (by decide +kernel) rfl
theorem wco_min : Cond.code Lib.Math.min.name Lib.Math.min.code 2 (some .int) ∈ zG := zG_of 307 (by decide +kernel) rfl
theorem wst_max : Cond.static Lib.Math.max.name ∈ zG := zG_of 268 (by decide +kernel) rfl
theorem wco_max : Cond.code Lib.Math.max.name Lib.Math.max.code 2 (some .int) ∈ zG := zG_of 269 (by decide +kernel) rfl
theorem win_math : Cond.initialized "java/lang/Math" ∈ zG := zG_of 10 (by decide +kernel) rfl
theorem wob_i : Cond.instanceMethod Lib.objectInit ∈ zG := zG_of 24 (by decide +kernel) rfl
theorem wob_c : Cond.code Lib.objectInit ⟨#[0xb1]⟩ 1 none ∈ zG := zG_of 25 (by decide +kernel) rfl
theorem war_int : Cond.arrayClass (zTy 0) ∈ zG := zG_of 69 (by decide +kernel) rfl
theorem war_long : Cond.arrayClass (zTy 1) ∈ zG := zG_of 68 (by decide +kernel) rfl
theorem war_boolean : Cond.arrayClass (zTy 2) ∈ zG := zG_of 70 (by decide +kernel) rfl
theorem wcl_law_7 : Cond.classLink "StatuteConsolidatorLaw" 7 "StatuteConsolidator" ∈ zG := zG_of 18 (by decide +kernel) rfl
theorem wcl_sc_9 : Cond.classLink "StatuteConsolidator" 9 "StatuteConsolidator$Statute" ∈ zG := zG_of 26 (by decide +kernel) rfl
theorem wcl_sta_9 : Cond.classLink "StatuteConsolidator$Statute" 9 "StatuteConsolidator$Provisions" ∈ zG := zG_of 32 (by decide +kernel) rfl
theorem wcl_sta_22 : Cond.classLink "StatuteConsolidator$Statute" 22 "[[I" ∈ zG := zG_of 71 (by decide +kernel) rfl
theorem wcl_sta_27 : Cond.classLink "StatuteConsolidator$Statute" 27 "StatuteConsolidator$Amendments" ∈ zG := zG_of 73 (by decide +kernel) rfl
theorem wcl_sc_23 : Cond.classLink "StatuteConsolidator" 23 "StatuteConsolidator$Input" ∈ zG := zG_of 133 (by decide +kernel) rfl
theorem wcl_sc_30 : Cond.classLink "StatuteConsolidator" 30 "StatuteConsolidator$Shelves" ∈ zG := zG_of 152 (by decide +kernel) rfl
theorem wcl_sh_22 : Cond.classLink "StatuteConsolidator$Shelves" 22 "[[I" ∈ zG := zG_of 158 (by decide +kernel) rfl
theorem wcl_sc_37 : Cond.classLink "StatuteConsolidator" 37 "StatuteConsolidator$Version" ∈ zG := zG_of 176 (by decide +kernel) rfl
theorem wcl_ver_9 : Cond.classLink "StatuteConsolidator$Version" 9 "StatuteConsolidator$Provisions" ∈ zG := zG_of 182 (by decide +kernel) rfl
theorem wk_pa_15 : Cond.constantLong "StatuteConsolidator$Paths" 15 (2097151) ∈ zG := zG_of 249 (by decide +kernel) rfl
theorem wk_pa_17 : Cond.constantLong "StatuteConsolidator$Paths" 17 (4398046511103) ∈ zG := zG_of 250 (by decide +kernel) rfl
theorem wk_pa_29 : Cond.constantLong "StatuteConsolidator$Paths" 29 (-2097152) ∈ zG := zG_of 259 (by decide +kernel) rfl
theorem wk_pa_31 : Cond.constantLong "StatuteConsolidator$Paths" 31 (-4398046511104) ∈ zG := zG_of 260 (by decide +kernel) rfl
theorem wk_pa_19 : Cond.constantLong "StatuteConsolidator$Paths" 19 (-1) ∈ zG := zG_of 280 (by decide +kernel) rfl
theorem wf_js_38 : Cond.fieldLink "java/lang/String" 38 "java/lang/String" "COMPACT_STRINGS" "Z" ∈ zG := zG_of 387 (by decide +kernel) rfl
theorem wf_js_1053 : Cond.fieldLink "java/lang/String" 1053 "jdk/internal/util/Preconditions" "SIOOBE_FORMATTER" "Ljava/util/function/BiFunction;" ∈ zG := zG_of 404 (by decide +kernel) rfl
theorem wf_ju_44 : Cond.fieldLink "java/lang/StringUTF16" 44 "java/lang/StringUTF16" "$assertionsDisabled" "Z" ∈ zG := zG_of 422 (by decide +kernel) rfl
theorem wf_ju_59 : Cond.fieldLink "java/lang/StringUTF16" 59 "java/lang/StringUTF16" "HI_BYTE_SHIFT" "I" ∈ zG := zG_of 424 (by decide +kernel) rfl
theorem wf_ju_63 : Cond.fieldLink "java/lang/StringUTF16" 63 "java/lang/StringUTF16" "LO_BYTE_SHIFT" "I" ∈ zG := zG_of 426 (by decide +kernel) rfl
theorem wk_sc_215 : Cond.constant "StatuteConsolidator" 215 (2143289344) ∈ zG := zG_of 707 (by decide +kernel) rfl
theorem wk_sc_259 : Cond.constantLong "StatuteConsolidator" 259 (2) ∈ zG := zG_of 711 (by decide +kernel) rfl
theorem wk_sc_220 : Cond.constantLong "StatuteConsolidator" 220 (-4) ∈ zG := zG_of 716 (by decide +kernel) rfl
theorem wk_sc_222 : Cond.constantLong "StatuteConsolidator" 222 (9221120237041090560) ∈ zG := zG_of 717 (by decide +kernel) rfl
theorem wcl_law_10 : Cond.classLink "StatuteConsolidatorLaw" 10 "StatuteConsolidatorModel" ∈ zG := zG_of 771 (by decide +kernel) rfl
theorem wk_jf_77 : Cond.constant "java/lang/Float" 77 (2143289344) ∈ zG := zG_of 1288 (by decide +kernel) rfl
theorem wk_mo_366 : Cond.constantLong "StatuteConsolidatorModel" 366 (-4) ∈ zG := zG_of 1293 (by decide +kernel) rfl
theorem wk_jd_137 : Cond.constantLong "java/lang/Double" 137 (9221120237041090560) ∈ zG := zG_of 1303 (by decide +kernel) rfl
theorem wf_js_9 : Cond.fieldLink "java/lang/String" 9 "java/lang/String" "value" "[B" ∈ zG := zG_of 1339 (by decide +kernel) rfl
theorem wf_js_15 : Cond.fieldLink "java/lang/String" 15 "java/lang/String" "coder" "B" ∈ zG := zG_of 1340 (by decide +kernel) rfl
end
