/-! decode rows -/
theorem d_pa_labelOfNumber_0 : decode m_pa_labelOfNumber.2.2.1 0 = .ok (.iload_n 0, 1) := by decide +kernel
theorem d_pa_labelOfNumber_1 : decode m_pa_labelOfNumber.2.2.1 1 = .ok (.sipush 19683, 3) := by decide +kernel
theorem d_pa_labelOfNumber_4 : decode m_pa_labelOfNumber.2.2.1 4 = .ok (.imul, 1) := by decide +kernel
theorem d_pa_labelOfNumber_5 : decode m_pa_labelOfNumber.2.2.1 5 = .ok (.ireturn, 1) := by decide +kernel
theorem d_pa_numberOf_0 : decode m_pa_numberOf.2.2.1 0 = .ok (.iload_n 0, 1) := by decide +kernel
theorem d_pa_numberOf_1 : decode m_pa_numberOf.2.2.1 1 = .ok (.sipush 19683, 3) := by decide +kernel
theorem d_pa_numberOf_4 : decode m_pa_numberOf.2.2.1 4 = .ok (.idiv, 1) := by decide +kernel
theorem d_pa_numberOf_5 : decode m_pa_numberOf.2.2.1 5 = .ok (.ireturn, 1) := by decide +kernel
theorem d_pa_letterOf_0 : decode m_pa_letterOf.2.2.1 0 = .ok (.iload_n 1, 1) := by decide +kernel
theorem d_pa_letterOf_1 : decode m_pa_letterOf.2.2.1 1 = .ok (.ifCond .ne 9, 3) := by decide +kernel
theorem d_pa_letterOf_4 : decode m_pa_letterOf.2.2.1 4 = .ok (.sipush 729, 3) := by decide +kernel
theorem d_pa_letterOf_7 : decode m_pa_letterOf.2.2.1 7 = .ok (.goto 14, 3) := by decide +kernel
theorem d_pa_letterOf_10 : decode m_pa_letterOf.2.2.1 10 = .ok (.iload_n 1, 1) := by decide +kernel
theorem d_pa_letterOf_11 : decode m_pa_letterOf.2.2.1 11 = .ok (.iconst 1, 1) := by decide +kernel
theorem d_pa_letterOf_12 : decode m_pa_letterOf.2.2.1 12 = .ok (.if_icmp .ne 8, 3) := by decide +kernel
theorem d_pa_letterOf_15 : decode m_pa_letterOf.2.2.1 15 = .ok (.bipush 27, 2) := by decide +kernel
theorem d_pa_letterOf_17 : decode m_pa_letterOf.2.2.1 17 = .ok (.goto 4, 3) := by decide +kernel
theorem d_pa_letterOf_20 : decode m_pa_letterOf.2.2.1 20 = .ok (.iconst 1, 1) := by decide +kernel
theorem d_pa_letterOf_21 : decode m_pa_letterOf.2.2.1 21 = .ok (.istore_n 2, 1) := by decide +kernel
theorem d_pa_letterOf_22 : decode m_pa_letterOf.2.2.1 22 = .ok (.iload_n 0, 1) := by decide +kernel
theorem d_pa_letterOf_23 : decode m_pa_letterOf.2.2.1 23 = .ok (.iload_n 2, 1) := by decide +kernel
theorem d_pa_letterOf_24 : decode m_pa_letterOf.2.2.1 24 = .ok (.idiv, 1) := by decide +kernel
theorem d_pa_letterOf_25 : decode m_pa_letterOf.2.2.1 25 = .ok (.bipush 27, 2) := by decide +kernel
theorem d_pa_letterOf_27 : decode m_pa_letterOf.2.2.1 27 = .ok (.irem, 1) := by decide +kernel
theorem d_pa_letterOf_28 : decode m_pa_letterOf.2.2.1 28 = .ok (.ireturn, 1) := by decide +kernel
theorem d_pa_lettersOf_0 : decode m_pa_lettersOf.2.2.1 0 = .ok (.iconst 0, 1) := by decide +kernel
theorem d_pa_lettersOf_1 : decode m_pa_lettersOf.2.2.1 1 = .ok (.istore_n 1, 1) := by decide +kernel
theorem d_pa_lettersOf_2 : decode m_pa_lettersOf.2.2.1 2 = .ok (.iload_n 1, 1) := by decide +kernel
theorem d_pa_lettersOf_3 : decode m_pa_lettersOf.2.2.1 3 = .ok (.iconst 3, 1) := by decide +kernel
theorem d_pa_lettersOf_4 : decode m_pa_lettersOf.2.2.1 4 = .ok (.if_icmp .ge 17, 3) := by decide +kernel
theorem d_pa_lettersOf_7 : decode m_pa_lettersOf.2.2.1 7 = .ok (.iload_n 0, 1) := by decide +kernel
theorem d_pa_lettersOf_8 : decode m_pa_lettersOf.2.2.1 8 = .ok (.iload_n 1, 1) := by decide +kernel
theorem d_pa_lettersOf_9 : decode m_pa_lettersOf.2.2.1 9 = .ok (.invokestatic 11, 3) := by decide +kernel
theorem d_pa_lettersOf_12 : decode m_pa_lettersOf.2.2.1 12 = .ok (.ifCond .eq 9, 3) := by decide +kernel
theorem d_pa_lettersOf_15 : decode m_pa_lettersOf.2.2.1 15 = .ok (.iinc 1 1, 3) := by decide +kernel
theorem d_pa_lettersOf_18 : decode m_pa_lettersOf.2.2.1 18 = .ok (.goto (-16), 3) := by decide +kernel
theorem d_pa_lettersOf_21 : decode m_pa_lettersOf.2.2.1 21 = .ok (.iload_n 1, 1) := by decide +kernel
theorem d_pa_lettersOf_22 : decode m_pa_lettersOf.2.2.1 22 = .ok (.ireturn, 1) := by decide +kernel
theorem d_pa_labelBetween_0 : decode m_pa_labelBetween.2.2.1 0 = .ok (.sipush 729, 3) := by decide +kernel
theorem d_pa_labelBetween_3 : decode m_pa_labelBetween.2.2.1 3 = .ok (.istore_n 2, 1) := by decide +kernel
theorem d_pa_labelBetween_4 : decode m_pa_labelBetween.2.2.1 4 = .ok (.iload_n 2, 1) := by decide +kernel
theorem d_pa_labelBetween_5 : decode m_pa_labelBetween.2.2.1 5 = .ok (.ifCond .le 38, 3) := by decide +kernel
theorem d_pa_labelBetween_8 : decode m_pa_labelBetween.2.2.1 8 = .ok (.iload_n 0, 1) := by decide +kernel
theorem d_pa_labelBetween_9 : decode m_pa_labelBetween.2.2.1 9 = .ok (.iload_n 0, 1) := by decide +kernel
theorem d_pa_labelBetween_10 : decode m_pa_labelBetween.2.2.1 10 = .ok (.iload_n 2, 1) := by decide +kernel
theorem d_pa_labelBetween_11 : decode m_pa_labelBetween.2.2.1 11 = .ok (.irem, 1) := by decide +kernel
theorem d_pa_labelBetween_12 : decode m_pa_labelBetween.2.2.1 12 = .ok (.isub, 1) := by decide +kernel
theorem d_pa_labelBetween_13 : decode m_pa_labelBetween.2.2.1 13 = .ok (.iload_n 2, 1) := by decide +kernel
theorem d_pa_labelBetween_14 : decode m_pa_labelBetween.2.2.1 14 = .ok (.iadd, 1) := by decide +kernel
theorem d_pa_labelBetween_15 : decode m_pa_labelBetween.2.2.1 15 = .ok (.istore_n 3, 1) := by decide +kernel
theorem d_pa_labelBetween_16 : decode m_pa_labelBetween.2.2.1 16 = .ok (.iload_n 3, 1) := by decide +kernel
theorem d_pa_labelBetween_17 : decode m_pa_labelBetween.2.2.1 17 = .ok (.iload_n 1, 1) := by decide +kernel
theorem d_pa_labelBetween_18 : decode m_pa_labelBetween.2.2.1 18 = .ok (.if_icmp .ge 5, 3) := by decide +kernel
theorem d_pa_labelBetween_21 : decode m_pa_labelBetween.2.2.1 21 = .ok (.iload_n 3, 1) := by decide +kernel
theorem d_pa_labelBetween_22 : decode m_pa_labelBetween.2.2.1 22 = .ok (.ireturn, 1) := by decide +kernel
theorem d_pa_labelBetween_23 : decode m_pa_labelBetween.2.2.1 23 = .ok (.iload_n 0, 1) := by decide +kernel
theorem d_pa_labelBetween_24 : decode m_pa_labelBetween.2.2.1 24 = .ok (.iload_n 2, 1) := by decide +kernel
theorem d_pa_labelBetween_25 : decode m_pa_labelBetween.2.2.1 25 = .ok (.bipush 27, 2) := by decide +kernel
theorem d_pa_labelBetween_27 : decode m_pa_labelBetween.2.2.1 27 = .ok (.imul, 1) := by decide +kernel
theorem d_pa_labelBetween_28 : decode m_pa_labelBetween.2.2.1 28 = .ok (.irem, 1) := by decide +kernel
theorem d_pa_labelBetween_29 : decode m_pa_labelBetween.2.2.1 29 = .ok (.ifCond .ne 6, 3) := by decide +kernel
theorem d_pa_labelBetween_32 : decode m_pa_labelBetween.2.2.1 32 = .ok (.bipush (-7), 2) := by decide +kernel
theorem d_pa_labelBetween_34 : decode m_pa_labelBetween.2.2.1 34 = .ok (.ireturn, 1) := by decide +kernel
theorem d_pa_labelBetween_35 : decode m_pa_labelBetween.2.2.1 35 = .ok (.iload_n 2, 1) := by decide +kernel
theorem d_pa_labelBetween_36 : decode m_pa_labelBetween.2.2.1 36 = .ok (.bipush 27, 2) := by decide +kernel
theorem d_pa_labelBetween_38 : decode m_pa_labelBetween.2.2.1 38 = .ok (.idiv, 1) := by decide +kernel
theorem d_pa_labelBetween_39 : decode m_pa_labelBetween.2.2.1 39 = .ok (.istore_n 2, 1) := by decide +kernel
theorem d_pa_labelBetween_40 : decode m_pa_labelBetween.2.2.1 40 = .ok (.goto (-36), 3) := by decide +kernel
theorem d_pa_labelBetween_43 : decode m_pa_labelBetween.2.2.1 43 = .ok (.bipush (-7), 2) := by decide +kernel
theorem d_pa_labelBetween_45 : decode m_pa_labelBetween.2.2.1 45 = .ok (.ireturn, 1) := by decide +kernel
theorem d_pa_levelOf_0 : decode m_pa_levelOf.2.2.1 0 = .ok (.lload_n 0, 1) := by decide +kernel
theorem d_pa_levelOf_1 : decode m_pa_levelOf.2.2.1 1 = .ok (.ldc2_w 15, 3) := by decide +kernel
theorem d_pa_levelOf_4 : decode m_pa_levelOf.2.2.1 4 = .ok (.land, 1) := by decide +kernel
theorem d_pa_levelOf_5 : decode m_pa_levelOf.2.2.1 5 = .ok (.lconst 0, 1) := by decide +kernel
theorem d_pa_levelOf_6 : decode m_pa_levelOf.2.2.1 6 = .ok (.lcmp, 1) := by decide +kernel
theorem d_pa_levelOf_7 : decode m_pa_levelOf.2.2.1 7 = .ok (.ifCond .eq 5, 3) := by decide +kernel
theorem d_pa_levelOf_10 : decode m_pa_levelOf.2.2.1 10 = .ok (.iconst 3, 1) := by decide +kernel
theorem d_pa_levelOf_11 : decode m_pa_levelOf.2.2.1 11 = .ok (.ireturn, 1) := by decide +kernel
theorem d_pa_levelOf_12 : decode m_pa_levelOf.2.2.1 12 = .ok (.lload_n 0, 1) := by decide +kernel
theorem d_pa_levelOf_13 : decode m_pa_levelOf.2.2.1 13 = .ok (.ldc2_w 17, 3) := by decide +kernel
theorem d_pa_levelOf_16 : decode m_pa_levelOf.2.2.1 16 = .ok (.land, 1) := by decide +kernel
theorem d_pa_levelOf_17 : decode m_pa_levelOf.2.2.1 17 = .ok (.lconst 0, 1) := by decide +kernel
theorem d_pa_levelOf_18 : decode m_pa_levelOf.2.2.1 18 = .ok (.lcmp, 1) := by decide +kernel
theorem d_pa_levelOf_19 : decode m_pa_levelOf.2.2.1 19 = .ok (.ifCond .eq 5, 3) := by decide +kernel
theorem d_pa_levelOf_22 : decode m_pa_levelOf.2.2.1 22 = .ok (.iconst 2, 1) := by decide +kernel
theorem d_pa_levelOf_23 : decode m_pa_levelOf.2.2.1 23 = .ok (.ireturn, 1) := by decide +kernel
theorem d_pa_levelOf_24 : decode m_pa_levelOf.2.2.1 24 = .ok (.lload_n 0, 1) := by decide +kernel
theorem d_pa_levelOf_25 : decode m_pa_levelOf.2.2.1 25 = .ok (.lconst 0, 1) := by decide +kernel
theorem d_pa_levelOf_26 : decode m_pa_levelOf.2.2.1 26 = .ok (.lcmp, 1) := by decide +kernel
theorem d_pa_levelOf_27 : decode m_pa_levelOf.2.2.1 27 = .ok (.ifCond .ne 7, 3) := by decide +kernel
theorem d_pa_levelOf_30 : decode m_pa_levelOf.2.2.1 30 = .ok (.iconst 0, 1) := by decide +kernel
theorem d_pa_levelOf_31 : decode m_pa_levelOf.2.2.1 31 = .ok (.goto 4, 3) := by decide +kernel
theorem d_pa_levelOf_34 : decode m_pa_levelOf.2.2.1 34 = .ok (.iconst 1, 1) := by decide +kernel
theorem d_pa_levelOf_35 : decode m_pa_levelOf.2.2.1 35 = .ok (.ireturn, 1) := by decide +kernel
theorem d_pa_labelAt_0 : decode m_pa_labelAt.2.2.1 0 = .ok (.lload_n 0, 1) := by decide +kernel
theorem d_pa_labelAt_1 : decode m_pa_labelAt.2.2.1 1 = .ok (.iconst 3, 1) := by decide +kernel
theorem d_pa_labelAt_2 : decode m_pa_labelAt.2.2.1 2 = .ok (.iload_n 2, 1) := by decide +kernel
theorem d_pa_labelAt_3 : decode m_pa_labelAt.2.2.1 3 = .ok (.isub, 1) := by decide +kernel
theorem d_pa_labelAt_4 : decode m_pa_labelAt.2.2.1 4 = .ok (.bipush 21, 2) := by decide +kernel
theorem d_pa_labelAt_6 : decode m_pa_labelAt.2.2.1 6 = .ok (.imul, 1) := by decide +kernel
theorem d_pa_labelAt_7 : decode m_pa_labelAt.2.2.1 7 = .ok (.lshr, 1) := by decide +kernel
theorem d_pa_labelAt_8 : decode m_pa_labelAt.2.2.1 8 = .ok (.ldc2_w 15, 3) := by decide +kernel
theorem d_pa_labelAt_11 : decode m_pa_labelAt.2.2.1 11 = .ok (.land, 1) := by decide +kernel
theorem d_pa_labelAt_12 : decode m_pa_labelAt.2.2.1 12 = .ok (.l2i, 1) := by decide +kernel
theorem d_pa_labelAt_13 : decode m_pa_labelAt.2.2.1 13 = .ok (.ireturn, 1) := by decide +kernel
theorem d_pa_withLabel_0 : decode m_pa_withLabel.2.2.1 0 = .ok (.iconst 3, 1) := by decide +kernel
theorem d_pa_withLabel_1 : decode m_pa_withLabel.2.2.1 1 = .ok (.iload_n 2, 1) := by decide +kernel
theorem d_pa_withLabel_2 : decode m_pa_withLabel.2.2.1 2 = .ok (.isub, 1) := by decide +kernel
theorem d_pa_withLabel_3 : decode m_pa_withLabel.2.2.1 3 = .ok (.bipush 21, 2) := by decide +kernel
theorem d_pa_withLabel_5 : decode m_pa_withLabel.2.2.1 5 = .ok (.imul, 1) := by decide +kernel
theorem d_pa_withLabel_6 : decode m_pa_withLabel.2.2.1 6 = .ok (.istore 4, 2) := by decide +kernel
theorem d_pa_withLabel_8 : decode m_pa_withLabel.2.2.1 8 = .ok (.lload_n 0, 1) := by decide +kernel
theorem d_pa_withLabel_9 : decode m_pa_withLabel.2.2.1 9 = .ok (.ldc2_w 15, 3) := by decide +kernel
theorem d_pa_withLabel_12 : decode m_pa_withLabel.2.2.1 12 = .ok (.iload 4, 2) := by decide +kernel
theorem d_pa_withLabel_14 : decode m_pa_withLabel.2.2.1 14 = .ok (.lshl, 1) := by decide +kernel
theorem d_pa_withLabel_15 : decode m_pa_withLabel.2.2.1 15 = .ok (.ldc2_w 19, 3) := by decide +kernel
theorem d_pa_withLabel_18 : decode m_pa_withLabel.2.2.1 18 = .ok (.lxor, 1) := by decide +kernel
theorem d_pa_withLabel_19 : decode m_pa_withLabel.2.2.1 19 = .ok (.land, 1) := by decide +kernel
theorem d_pa_withLabel_20 : decode m_pa_withLabel.2.2.1 20 = .ok (.iload_n 3, 1) := by decide +kernel
theorem d_pa_withLabel_21 : decode m_pa_withLabel.2.2.1 21 = .ok (.i2l, 1) := by decide +kernel
theorem d_pa_withLabel_22 : decode m_pa_withLabel.2.2.1 22 = .ok (.iload 4, 2) := by decide +kernel
theorem d_pa_withLabel_24 : decode m_pa_withLabel.2.2.1 24 = .ok (.lshl, 1) := by decide +kernel
theorem d_pa_withLabel_25 : decode m_pa_withLabel.2.2.1 25 = .ok (.lor, 1) := by decide +kernel
theorem d_pa_withLabel_26 : decode m_pa_withLabel.2.2.1 26 = .ok (.lreturn, 1) := by decide +kernel
theorem d_pa_childOf_0 : decode m_pa_childOf.2.2.1 0 = .ok (.lload_n 0, 1) := by decide +kernel
theorem d_pa_childOf_1 : decode m_pa_childOf.2.2.1 1 = .ok (.lload_n 0, 1) := by decide +kernel
theorem d_pa_childOf_2 : decode m_pa_childOf.2.2.1 2 = .ok (.invokestatic 21, 3) := by decide +kernel
theorem d_pa_childOf_5 : decode m_pa_childOf.2.2.1 5 = .ok (.iconst 1, 1) := by decide +kernel
theorem d_pa_childOf_6 : decode m_pa_childOf.2.2.1 6 = .ok (.iadd, 1) := by decide +kernel
theorem d_pa_childOf_7 : decode m_pa_childOf.2.2.1 7 = .ok (.iload_n 2, 1) := by decide +kernel
theorem d_pa_childOf_8 : decode m_pa_childOf.2.2.1 8 = .ok (.invokestatic 25, 3) := by decide +kernel
theorem d_pa_childOf_11 : decode m_pa_childOf.2.2.1 11 = .ok (.lreturn, 1) := by decide +kernel
theorem d_pa_siblingOf_0 : decode m_pa_siblingOf.2.2.1 0 = .ok (.lload_n 0, 1) := by decide +kernel
theorem d_pa_siblingOf_1 : decode m_pa_siblingOf.2.2.1 1 = .ok (.lload_n 0, 1) := by decide +kernel
theorem d_pa_siblingOf_2 : decode m_pa_siblingOf.2.2.1 2 = .ok (.invokestatic 21, 3) := by decide +kernel
theorem d_pa_siblingOf_5 : decode m_pa_siblingOf.2.2.1 5 = .ok (.iload_n 2, 1) := by decide +kernel
theorem d_pa_siblingOf_6 : decode m_pa_siblingOf.2.2.1 6 = .ok (.invokestatic 25, 3) := by decide +kernel
theorem d_pa_siblingOf_9 : decode m_pa_siblingOf.2.2.1 9 = .ok (.lreturn, 1) := by decide +kernel
theorem d_pa_parentOf_0 : decode m_pa_parentOf.2.2.1 0 = .ok (.lload_n 0, 1) := by decide +kernel
theorem d_pa_parentOf_1 : decode m_pa_parentOf.2.2.1 1 = .ok (.ldc2_w 15, 3) := by decide +kernel
theorem d_pa_parentOf_4 : decode m_pa_parentOf.2.2.1 4 = .ok (.land, 1) := by decide +kernel
theorem d_pa_parentOf_5 : decode m_pa_parentOf.2.2.1 5 = .ok (.lconst 0, 1) := by decide +kernel
theorem d_pa_parentOf_6 : decode m_pa_parentOf.2.2.1 6 = .ok (.lcmp, 1) := by decide +kernel
theorem d_pa_parentOf_7 : decode m_pa_parentOf.2.2.1 7 = .ok (.ifCond .eq 9, 3) := by decide +kernel
theorem d_pa_parentOf_10 : decode m_pa_parentOf.2.2.1 10 = .ok (.lload_n 0, 1) := by decide +kernel
theorem d_pa_parentOf_11 : decode m_pa_parentOf.2.2.1 11 = .ok (.ldc2_w 29, 3) := by decide +kernel
theorem d_pa_parentOf_14 : decode m_pa_parentOf.2.2.1 14 = .ok (.land, 1) := by decide +kernel
theorem d_pa_parentOf_15 : decode m_pa_parentOf.2.2.1 15 = .ok (.lreturn, 1) := by decide +kernel
theorem d_pa_parentOf_16 : decode m_pa_parentOf.2.2.1 16 = .ok (.lload_n 0, 1) := by decide +kernel
theorem d_pa_parentOf_17 : decode m_pa_parentOf.2.2.1 17 = .ok (.ldc2_w 17, 3) := by decide +kernel
theorem d_pa_parentOf_20 : decode m_pa_parentOf.2.2.1 20 = .ok (.land, 1) := by decide +kernel
theorem d_pa_parentOf_21 : decode m_pa_parentOf.2.2.1 21 = .ok (.lconst 0, 1) := by decide +kernel
theorem d_pa_parentOf_22 : decode m_pa_parentOf.2.2.1 22 = .ok (.lcmp, 1) := by decide +kernel
theorem d_pa_parentOf_23 : decode m_pa_parentOf.2.2.1 23 = .ok (.ifCond .eq 11, 3) := by decide +kernel
theorem d_pa_parentOf_26 : decode m_pa_parentOf.2.2.1 26 = .ok (.lload_n 0, 1) := by decide +kernel
theorem d_pa_parentOf_27 : decode m_pa_parentOf.2.2.1 27 = .ok (.ldc2_w 31, 3) := by decide +kernel
theorem d_pa_parentOf_30 : decode m_pa_parentOf.2.2.1 30 = .ok (.land, 1) := by decide +kernel
theorem d_pa_parentOf_31 : decode m_pa_parentOf.2.2.1 31 = .ok (.goto 4, 3) := by decide +kernel
theorem d_pa_parentOf_34 : decode m_pa_parentOf.2.2.1 34 = .ok (.lconst 0, 1) := by decide +kernel
theorem d_pa_parentOf_35 : decode m_pa_parentOf.2.2.1 35 = .ok (.lreturn, 1) := by decide +kernel
theorem d_pa_tailBelow_0 : decode m_pa_tailBelow.2.2.1 0 = .ok (.lload_n 0, 1) := by decide +kernel
theorem d_pa_tailBelow_1 : decode m_pa_tailBelow.2.2.1 1 = .ok (.lconst 1, 1) := by decide +kernel
theorem d_pa_tailBelow_2 : decode m_pa_tailBelow.2.2.1 2 = .ok (.iconst 3, 1) := by decide +kernel
theorem d_pa_tailBelow_3 : decode m_pa_tailBelow.2.2.1 3 = .ok (.iload_n 2, 1) := by decide +kernel
theorem d_pa_tailBelow_4 : decode m_pa_tailBelow.2.2.1 4 = .ok (.isub, 1) := by decide +kernel
theorem d_pa_tailBelow_5 : decode m_pa_tailBelow.2.2.1 5 = .ok (.bipush 21, 2) := by decide +kernel
theorem d_pa_tailBelow_7 : decode m_pa_tailBelow.2.2.1 7 = .ok (.imul, 1) := by decide +kernel
theorem d_pa_tailBelow_8 : decode m_pa_tailBelow.2.2.1 8 = .ok (.lshl, 1) := by decide +kernel
theorem d_pa_tailBelow_9 : decode m_pa_tailBelow.2.2.1 9 = .ok (.lconst 1, 1) := by decide +kernel
theorem d_pa_tailBelow_10 : decode m_pa_tailBelow.2.2.1 10 = .ok (.lsub, 1) := by decide +kernel
theorem d_pa_tailBelow_11 : decode m_pa_tailBelow.2.2.1 11 = .ok (.land, 1) := by decide +kernel
theorem d_pa_tailBelow_12 : decode m_pa_tailBelow.2.2.1 12 = .ok (.lreturn, 1) := by decide +kernel
theorem d_pa_isWithin_0 : decode m_pa_isWithin.2.2.1 0 = .ok (.iconst 3, 1) := by decide +kernel
theorem d_pa_isWithin_1 : decode m_pa_isWithin.2.2.1 1 = .ok (.iload 4, 2) := by decide +kernel
theorem d_pa_isWithin_3 : decode m_pa_isWithin.2.2.1 3 = .ok (.isub, 1) := by decide +kernel
theorem d_pa_isWithin_4 : decode m_pa_isWithin.2.2.1 4 = .ok (.bipush 21, 2) := by decide +kernel
theorem d_pa_isWithin_6 : decode m_pa_isWithin.2.2.1 6 = .ok (.imul, 1) := by decide +kernel
theorem d_pa_isWithin_7 : decode m_pa_isWithin.2.2.1 7 = .ok (.istore 5, 2) := by decide +kernel
theorem d_pa_isWithin_9 : decode m_pa_isWithin.2.2.1 9 = .ok (.lload_n 0, 1) := by decide +kernel
theorem d_pa_isWithin_10 : decode m_pa_isWithin.2.2.1 10 = .ok (.iload 5, 2) := by decide +kernel
theorem d_pa_isWithin_12 : decode m_pa_isWithin.2.2.1 12 = .ok (.lshr, 1) := by decide +kernel
theorem d_pa_isWithin_13 : decode m_pa_isWithin.2.2.1 13 = .ok (.lload_n 2, 1) := by decide +kernel
theorem d_pa_isWithin_14 : decode m_pa_isWithin.2.2.1 14 = .ok (.iload 5, 2) := by decide +kernel
theorem d_pa_isWithin_16 : decode m_pa_isWithin.2.2.1 16 = .ok (.lshr, 1) := by decide +kernel
theorem d_pa_isWithin_17 : decode m_pa_isWithin.2.2.1 17 = .ok (.lcmp, 1) := by decide +kernel
theorem d_pa_isWithin_18 : decode m_pa_isWithin.2.2.1 18 = .ok (.ifCond .ne 7, 3) := by decide +kernel
theorem d_pa_isWithin_21 : decode m_pa_isWithin.2.2.1 21 = .ok (.iconst 1, 1) := by decide +kernel
theorem d_pa_isWithin_22 : decode m_pa_isWithin.2.2.1 22 = .ok (.goto 4, 3) := by decide +kernel
theorem d_pa_isWithin_25 : decode m_pa_isWithin.2.2.1 25 = .ok (.iconst 0, 1) := by decide +kernel
theorem d_pa_isWithin_26 : decode m_pa_isWithin.2.2.1 26 = .ok (.ireturn, 1) := by decide +kernel
theorem d_pa_digitsOf_0 : decode m_pa_digitsOf.2.2.1 0 = .ok (.iload_n 0, 1) := by decide +kernel
theorem d_pa_digitsOf_1 : decode m_pa_digitsOf.2.2.1 1 = .ok (.invokestatic 33, 3) := by decide +kernel
theorem d_pa_digitsOf_4 : decode m_pa_digitsOf.2.2.1 4 = .ok (.bipush 10, 2) := by decide +kernel
theorem d_pa_digitsOf_6 : decode m_pa_digitsOf.2.2.1 6 = .ok (.if_icmp .ge 7, 3) := by decide +kernel
theorem d_pa_digitsOf_9 : decode m_pa_digitsOf.2.2.1 9 = .ok (.iconst 1, 1) := by decide +kernel
theorem d_pa_digitsOf_10 : decode m_pa_digitsOf.2.2.1 10 = .ok (.goto 4, 3) := by decide +kernel
theorem d_pa_digitsOf_13 : decode m_pa_digitsOf.2.2.1 13 = .ok (.iconst 2, 1) := by decide +kernel
theorem d_pa_digitsOf_14 : decode m_pa_digitsOf.2.2.1 14 = .ok (.ireturn, 1) := by decide +kernel
theorem d_pa_lengthOf_0 : decode m_pa_lengthOf.2.2.1 0 = .ok (.lload_n 0, 1) := by decide +kernel
theorem d_pa_lengthOf_1 : decode m_pa_lengthOf.2.2.1 1 = .ok (.invokestatic 21, 3) := by decide +kernel
theorem d_pa_lengthOf_4 : decode m_pa_lengthOf.2.2.1 4 = .ok (.istore_n 2, 1) := by decide +kernel
theorem d_pa_lengthOf_5 : decode m_pa_lengthOf.2.2.1 5 = .ok (.iconst 0, 1) := by decide +kernel
theorem d_pa_lengthOf_6 : decode m_pa_lengthOf.2.2.1 6 = .ok (.istore_n 3, 1) := by decide +kernel
theorem d_pa_lengthOf_7 : decode m_pa_lengthOf.2.2.1 7 = .ok (.iconst 1, 1) := by decide +kernel
theorem d_pa_lengthOf_8 : decode m_pa_lengthOf.2.2.1 8 = .ok (.istore 4, 2) := by decide +kernel
theorem d_pa_lengthOf_10 : decode m_pa_lengthOf.2.2.1 10 = .ok (.iload 4, 2) := by decide +kernel
theorem d_pa_lengthOf_12 : decode m_pa_lengthOf.2.2.1 12 = .ok (.iload_n 2, 1) := by decide +kernel
theorem d_pa_lengthOf_13 : decode m_pa_lengthOf.2.2.1 13 = .ok (.if_icmp .gt 43, 3) := by decide +kernel
theorem d_pa_lengthOf_16 : decode m_pa_lengthOf.2.2.1 16 = .ok (.lload_n 0, 1) := by decide +kernel
theorem d_pa_lengthOf_17 : decode m_pa_lengthOf.2.2.1 17 = .ok (.iload 4, 2) := by decide +kernel
theorem d_pa_lengthOf_19 : decode m_pa_lengthOf.2.2.1 19 = .ok (.invokestatic 37, 3) := by decide +kernel
theorem d_pa_lengthOf_22 : decode m_pa_lengthOf.2.2.1 22 = .ok (.istore 5, 2) := by decide +kernel
theorem d_pa_lengthOf_24 : decode m_pa_lengthOf.2.2.1 24 = .ok (.iload_n 3, 1) := by decide +kernel
theorem d_pa_lengthOf_25 : decode m_pa_lengthOf.2.2.1 25 = .ok (.iload 5, 2) := by decide +kernel
theorem d_pa_lengthOf_27 : decode m_pa_lengthOf.2.2.1 27 = .ok (.invokestatic 41, 3) := by decide +kernel
theorem d_pa_lengthOf_30 : decode m_pa_lengthOf.2.2.1 30 = .ok (.iload 5, 2) := by decide +kernel
theorem d_pa_lengthOf_32 : decode m_pa_lengthOf.2.2.1 32 = .ok (.invokestatic 44, 3) := by decide +kernel
theorem d_pa_lengthOf_35 : decode m_pa_lengthOf.2.2.1 35 = .ok (.iadd, 1) := by decide +kernel
theorem d_pa_lengthOf_36 : decode m_pa_lengthOf.2.2.1 36 = .ok (.iload 4, 2) := by decide +kernel
theorem d_pa_lengthOf_38 : decode m_pa_lengthOf.2.2.1 38 = .ok (.iconst 1, 1) := by decide +kernel
theorem d_pa_lengthOf_39 : decode m_pa_lengthOf.2.2.1 39 = .ok (.if_icmp .le 7, 3) := by decide +kernel
theorem d_pa_lengthOf_42 : decode m_pa_lengthOf.2.2.1 42 = .ok (.iconst 2, 1) := by decide +kernel
theorem d_pa_lengthOf_43 : decode m_pa_lengthOf.2.2.1 43 = .ok (.goto 4, 3) := by decide +kernel
theorem d_pa_lengthOf_46 : decode m_pa_lengthOf.2.2.1 46 = .ok (.iconst 0, 1) := by decide +kernel
theorem d_pa_lengthOf_47 : decode m_pa_lengthOf.2.2.1 47 = .ok (.iadd, 1) := by decide +kernel
theorem d_pa_lengthOf_48 : decode m_pa_lengthOf.2.2.1 48 = .ok (.iadd, 1) := by decide +kernel
theorem d_pa_lengthOf_49 : decode m_pa_lengthOf.2.2.1 49 = .ok (.istore_n 3, 1) := by decide +kernel
theorem d_pa_lengthOf_50 : decode m_pa_lengthOf.2.2.1 50 = .ok (.iinc 4 1, 3) := by decide +kernel
theorem d_pa_lengthOf_53 : decode m_pa_lengthOf.2.2.1 53 = .ok (.goto (-43), 3) := by decide +kernel
theorem d_pa_lengthOf_56 : decode m_pa_lengthOf.2.2.1 56 = .ok (.iload_n 3, 1) := by decide +kernel
theorem d_pa_lengthOf_57 : decode m_pa_lengthOf.2.2.1 57 = .ok (.ireturn, 1) := by decide +kernel
theorem d_pa_characterOf_0 : decode m_pa_characterOf.2.2.1 0 = .ok (.iload_n 2, 1) := by decide +kernel
theorem d_pa_characterOf_1 : decode m_pa_characterOf.2.2.1 1 = .ok (.ifCond .ge 6, 3) := by decide +kernel
theorem d_pa_characterOf_4 : decode m_pa_characterOf.2.2.1 4 = .ok (.bipush (-9), 2) := by decide +kernel
theorem d_pa_characterOf_6 : decode m_pa_characterOf.2.2.1 6 = .ok (.ireturn, 1) := by decide +kernel
theorem d_pa_characterOf_7 : decode m_pa_characterOf.2.2.1 7 = .ok (.lload_n 0, 1) := by decide +kernel
theorem d_pa_characterOf_8 : decode m_pa_characterOf.2.2.1 8 = .ok (.invokestatic 21, 3) := by decide +kernel
theorem d_pa_characterOf_11 : decode m_pa_characterOf.2.2.1 11 = .ok (.istore_n 3, 1) := by decide +kernel
theorem d_pa_characterOf_12 : decode m_pa_characterOf.2.2.1 12 = .ok (.iload_n 2, 1) := by decide +kernel
theorem d_pa_characterOf_13 : decode m_pa_characterOf.2.2.1 13 = .ok (.istore 4, 2) := by decide +kernel
theorem d_pa_characterOf_15 : decode m_pa_characterOf.2.2.1 15 = .ok (.iconst 1, 1) := by decide +kernel
theorem d_pa_characterOf_16 : decode m_pa_characterOf.2.2.1 16 = .ok (.istore 5, 2) := by decide +kernel
theorem d_pa_characterOf_18 : decode m_pa_characterOf.2.2.1 18 = .ok (.iload 5, 2) := by decide +kernel
theorem d_pa_characterOf_20 : decode m_pa_characterOf.2.2.1 20 = .ok (.iload_n 3, 1) := by decide +kernel
theorem d_pa_characterOf_21 : decode m_pa_characterOf.2.2.1 21 = .ok (.if_icmp .gt 97, 3) := by decide +kernel
theorem d_pa_characterOf_24 : decode m_pa_characterOf.2.2.1 24 = .ok (.lload_n 0, 1) := by decide +kernel
theorem d_pa_characterOf_25 : decode m_pa_characterOf.2.2.1 25 = .ok (.iload 5, 2) := by decide +kernel
theorem d_pa_characterOf_27 : decode m_pa_characterOf.2.2.1 27 = .ok (.invokestatic 37, 3) := by decide +kernel
theorem d_pa_characterOf_30 : decode m_pa_characterOf.2.2.1 30 = .ok (.istore 6, 2) := by decide +kernel
theorem d_pa_characterOf_32 : decode m_pa_characterOf.2.2.1 32 = .ok (.iload 5, 2) := by decide +kernel
theorem d_pa_characterOf_34 : decode m_pa_characterOf.2.2.1 34 = .ok (.iconst 1, 1) := by decide +kernel
theorem d_pa_characterOf_35 : decode m_pa_characterOf.2.2.1 35 = .ok (.if_icmp .le 7, 3) := by decide +kernel
theorem d_pa_characterOf_38 : decode m_pa_characterOf.2.2.1 38 = .ok (.iconst 1, 1) := by decide +kernel
theorem d_pa_characterOf_39 : decode m_pa_characterOf.2.2.1 39 = .ok (.goto 4, 3) := by decide +kernel
theorem d_pa_characterOf_42 : decode m_pa_characterOf.2.2.1 42 = .ok (.iconst 0, 1) := by decide +kernel
theorem d_pa_characterOf_43 : decode m_pa_characterOf.2.2.1 43 = .ok (.istore 7, 2) := by decide +kernel
theorem d_pa_characterOf_45 : decode m_pa_characterOf.2.2.1 45 = .ok (.iload 7, 2) := by decide +kernel
theorem d_pa_characterOf_47 : decode m_pa_characterOf.2.2.1 47 = .ok (.iload 6, 2) := by decide +kernel
theorem d_pa_characterOf_49 : decode m_pa_characterOf.2.2.1 49 = .ok (.invokestatic 41, 3) := by decide +kernel
theorem d_pa_characterOf_52 : decode m_pa_characterOf.2.2.1 52 = .ok (.iadd, 1) := by decide +kernel
theorem d_pa_characterOf_53 : decode m_pa_characterOf.2.2.1 53 = .ok (.iload 6, 2) := by decide +kernel
theorem d_pa_characterOf_55 : decode m_pa_characterOf.2.2.1 55 = .ok (.invokestatic 44, 3) := by decide +kernel
theorem d_pa_characterOf_58 : decode m_pa_characterOf.2.2.1 58 = .ok (.iadd, 1) := by decide +kernel
theorem d_pa_characterOf_59 : decode m_pa_characterOf.2.2.1 59 = .ok (.istore 8, 2) := by decide +kernel
theorem d_pa_characterOf_61 : decode m_pa_characterOf.2.2.1 61 = .ok (.iload 4, 2) := by decide +kernel
theorem d_pa_characterOf_63 : decode m_pa_characterOf.2.2.1 63 = .ok (.iload 7, 2) := by decide +kernel
theorem d_pa_characterOf_65 : decode m_pa_characterOf.2.2.1 65 = .ok (.if_icmp .ge 6, 3) := by decide +kernel
theorem d_pa_characterOf_68 : decode m_pa_characterOf.2.2.1 68 = .ok (.bipush 40, 2) := by decide +kernel
theorem d_pa_characterOf_70 : decode m_pa_characterOf.2.2.1 70 = .ok (.ireturn, 1) := by decide +kernel
theorem d_pa_characterOf_71 : decode m_pa_characterOf.2.2.1 71 = .ok (.iload 4, 2) := by decide +kernel
theorem d_pa_characterOf_73 : decode m_pa_characterOf.2.2.1 73 = .ok (.iload 8, 2) := by decide +kernel
theorem d_pa_characterOf_75 : decode m_pa_characterOf.2.2.1 75 = .ok (.if_icmp .ge 14, 3) := by decide +kernel
theorem d_pa_characterOf_78 : decode m_pa_characterOf.2.2.1 78 = .ok (.iload 6, 2) := by decide +kernel
theorem d_pa_characterOf_80 : decode m_pa_characterOf.2.2.1 80 = .ok (.iload 4, 2) := by decide +kernel
theorem d_pa_characterOf_82 : decode m_pa_characterOf.2.2.1 82 = .ok (.iload 7, 2) := by decide +kernel
theorem d_pa_characterOf_84 : decode m_pa_characterOf.2.2.1 84 = .ok (.isub, 1) := by decide +kernel
theorem d_pa_characterOf_85 : decode m_pa_characterOf.2.2.1 85 = .ok (.invokestatic 47, 3) := by decide +kernel
theorem d_pa_characterOf_88 : decode m_pa_characterOf.2.2.1 88 = .ok (.ireturn, 1) := by decide +kernel
theorem d_pa_characterOf_89 : decode m_pa_characterOf.2.2.1 89 = .ok (.iload 4, 2) := by decide +kernel
theorem d_pa_characterOf_91 : decode m_pa_characterOf.2.2.1 91 = .ok (.iload 8, 2) := by decide +kernel
theorem d_pa_characterOf_93 : decode m_pa_characterOf.2.2.1 93 = .ok (.iload 7, 2) := by decide +kernel
theorem d_pa_characterOf_95 : decode m_pa_characterOf.2.2.1 95 = .ok (.iadd, 1) := by decide +kernel
theorem d_pa_characterOf_96 : decode m_pa_characterOf.2.2.1 96 = .ok (.if_icmp .ge 6, 3) := by decide +kernel
theorem d_pa_characterOf_99 : decode m_pa_characterOf.2.2.1 99 = .ok (.bipush 41, 2) := by decide +kernel
theorem d_pa_characterOf_101 : decode m_pa_characterOf.2.2.1 101 = .ok (.ireturn, 1) := by decide +kernel
theorem d_pa_characterOf_102 : decode m_pa_characterOf.2.2.1 102 = .ok (.iload 4, 2) := by decide +kernel
theorem d_pa_characterOf_104 : decode m_pa_characterOf.2.2.1 104 = .ok (.iload 8, 2) := by decide +kernel
theorem d_pa_characterOf_106 : decode m_pa_characterOf.2.2.1 106 = .ok (.iload 7, 2) := by decide +kernel
theorem d_pa_characterOf_108 : decode m_pa_characterOf.2.2.1 108 = .ok (.iadd, 1) := by decide +kernel
theorem d_pa_characterOf_109 : decode m_pa_characterOf.2.2.1 109 = .ok (.isub, 1) := by decide +kernel
theorem d_pa_characterOf_110 : decode m_pa_characterOf.2.2.1 110 = .ok (.istore 4, 2) := by decide +kernel
theorem d_pa_characterOf_112 : decode m_pa_characterOf.2.2.1 112 = .ok (.iinc 5 1, 3) := by decide +kernel
theorem d_pa_characterOf_115 : decode m_pa_characterOf.2.2.1 115 = .ok (.goto (-97), 3) := by decide +kernel
theorem d_pa_characterOf_118 : decode m_pa_characterOf.2.2.1 118 = .ok (.bipush (-9), 2) := by decide +kernel
theorem d_pa_characterOf_120 : decode m_pa_characterOf.2.2.1 120 = .ok (.ireturn, 1) := by decide +kernel
theorem d_pa_characterOfLabel_0 : decode m_pa_characterOfLabel.2.2.1 0 = .ok (.iload_n 0, 1) := by decide +kernel
theorem d_pa_characterOfLabel_1 : decode m_pa_characterOfLabel.2.2.1 1 = .ok (.invokestatic 41, 3) := by decide +kernel
theorem d_pa_characterOfLabel_4 : decode m_pa_characterOfLabel.2.2.1 4 = .ok (.istore_n 2, 1) := by decide +kernel
theorem d_pa_characterOfLabel_5 : decode m_pa_characterOfLabel.2.2.1 5 = .ok (.iload_n 1, 1) := by decide +kernel
theorem d_pa_characterOfLabel_6 : decode m_pa_characterOfLabel.2.2.1 6 = .ok (.iload_n 2, 1) := by decide +kernel
theorem d_pa_characterOfLabel_7 : decode m_pa_characterOfLabel.2.2.1 7 = .ok (.if_icmp .lt 14, 3) := by decide +kernel
theorem d_pa_characterOfLabel_10 : decode m_pa_characterOfLabel.2.2.1 10 = .ok (.bipush 64, 2) := by decide +kernel
theorem d_pa_characterOfLabel_12 : decode m_pa_characterOfLabel.2.2.1 12 = .ok (.iload_n 0, 1) := by decide +kernel
theorem d_pa_characterOfLabel_13 : decode m_pa_characterOfLabel.2.2.1 13 = .ok (.iload_n 1, 1) := by decide +kernel
theorem d_pa_characterOfLabel_14 : decode m_pa_characterOfLabel.2.2.1 14 = .ok (.iload_n 2, 1) := by decide +kernel
theorem d_pa_characterOfLabel_15 : decode m_pa_characterOfLabel.2.2.1 15 = .ok (.isub, 1) := by decide +kernel
theorem d_pa_characterOfLabel_16 : decode m_pa_characterOfLabel.2.2.1 16 = .ok (.invokestatic 11, 3) := by decide +kernel
theorem d_pa_characterOfLabel_19 : decode m_pa_characterOfLabel.2.2.1 19 = .ok (.iadd, 1) := by decide +kernel
theorem d_pa_characterOfLabel_20 : decode m_pa_characterOfLabel.2.2.1 20 = .ok (.ireturn, 1) := by decide +kernel
theorem d_pa_characterOfLabel_21 : decode m_pa_characterOfLabel.2.2.1 21 = .ok (.iload_n 0, 1) := by decide +kernel
theorem d_pa_characterOfLabel_22 : decode m_pa_characterOfLabel.2.2.1 22 = .ok (.invokestatic 33, 3) := by decide +kernel
theorem d_pa_characterOfLabel_25 : decode m_pa_characterOfLabel.2.2.1 25 = .ok (.istore_n 3, 1) := by decide +kernel
theorem d_pa_characterOfLabel_26 : decode m_pa_characterOfLabel.2.2.1 26 = .ok (.bipush 48, 2) := by decide +kernel
theorem d_pa_characterOfLabel_28 : decode m_pa_characterOfLabel.2.2.1 28 = .ok (.iload_n 1, 1) := by decide +kernel
theorem d_pa_characterOfLabel_29 : decode m_pa_characterOfLabel.2.2.1 29 = .ok (.iload_n 2, 1) := by decide +kernel
theorem d_pa_characterOfLabel_30 : decode m_pa_characterOfLabel.2.2.1 30 = .ok (.iconst 1, 1) := by decide +kernel
theorem d_pa_characterOfLabel_31 : decode m_pa_characterOfLabel.2.2.1 31 = .ok (.isub, 1) := by decide +kernel
theorem d_pa_characterOfLabel_32 : decode m_pa_characterOfLabel.2.2.1 32 = .ok (.if_icmp .ge 10, 3) := by decide +kernel
theorem d_pa_characterOfLabel_35 : decode m_pa_characterOfLabel.2.2.1 35 = .ok (.iload_n 3, 1) := by decide +kernel
theorem d_pa_characterOfLabel_36 : decode m_pa_characterOfLabel.2.2.1 36 = .ok (.bipush 10, 2) := by decide +kernel
theorem d_pa_characterOfLabel_38 : decode m_pa_characterOfLabel.2.2.1 38 = .ok (.idiv, 1) := by decide +kernel
theorem d_pa_characterOfLabel_39 : decode m_pa_characterOfLabel.2.2.1 39 = .ok (.goto 7, 3) := by decide +kernel
theorem d_pa_characterOfLabel_42 : decode m_pa_characterOfLabel.2.2.1 42 = .ok (.iload_n 3, 1) := by decide +kernel
theorem d_pa_characterOfLabel_43 : decode m_pa_characterOfLabel.2.2.1 43 = .ok (.bipush 10, 2) := by decide +kernel
theorem d_pa_characterOfLabel_45 : decode m_pa_characterOfLabel.2.2.1 45 = .ok (.irem, 1) := by decide +kernel
theorem d_pa_characterOfLabel_46 : decode m_pa_characterOfLabel.2.2.1 46 = .ok (.iadd, 1) := by decide +kernel
theorem d_pa_characterOfLabel_47 : decode m_pa_characterOfLabel.2.2.1 47 = .ok (.ireturn, 1) := by decide +kernel
theorem d_pv_init_0 : decode m_pv_init.2.2.1 0 = .ok (.aload_n 0, 1) := by decide +kernel
theorem d_pv_init_1 : decode m_pv_init.2.2.1 1 = .ok (.invokespecial 3, 3) := by decide +kernel
theorem d_pv_init_4 : decode m_pv_init.2.2.1 4 = .ok (.aload_n 0, 1) := by decide +kernel
theorem d_pv_init_5 : decode m_pv_init.2.2.1 5 = .ok (.bipush 60, 2) := by decide +kernel
theorem d_pv_init_7 : decode m_pv_init.2.2.1 7 = .ok (.newarray .long, 2) := by decide +kernel
theorem d_pv_init_9 : decode m_pv_init.2.2.1 9 = .ok (.putfield 9, 3) := by decide +kernel
theorem d_pv_init_12 : decode m_pv_init.2.2.1 12 = .ok (.aload_n 0, 1) := by decide +kernel
theorem d_pv_init_13 : decode m_pv_init.2.2.1 13 = .ok (.bipush 60, 2) := by decide +kernel
theorem d_pv_init_15 : decode m_pv_init.2.2.1 15 = .ok (.newarray .int, 2) := by decide +kernel
theorem d_pv_init_17 : decode m_pv_init.2.2.1 17 = .ok (.putfield 15, 3) := by decide +kernel
theorem d_pv_init_20 : decode m_pv_init.2.2.1 20 = .ok (.aload_n 0, 1) := by decide +kernel
theorem d_pv_init_21 : decode m_pv_init.2.2.1 21 = .ok (.bipush 60, 2) := by decide +kernel
theorem d_pv_init_23 : decode m_pv_init.2.2.1 23 = .ok (.newarray .boolean, 2) := by decide +kernel
theorem d_pv_init_25 : decode m_pv_init.2.2.1 25 = .ok (.putfield 19, 3) := by decide +kernel
theorem d_pv_init_28 : decode m_pv_init.2.2.1 28 = .ok (.aload_n 0, 1) := by decide +kernel
theorem d_pv_init_29 : decode m_pv_init.2.2.1 29 = .ok (.bipush 60, 2) := by decide +kernel
theorem d_pv_init_31 : decode m_pv_init.2.2.1 31 = .ok (.newarray .int, 2) := by decide +kernel
theorem d_pv_init_33 : decode m_pv_init.2.2.1 33 = .ok (.putfield 23, 3) := by decide +kernel
theorem d_pv_init_36 : decode m_pv_init.2.2.1 36 = .ok (.aload_n 0, 1) := by decide +kernel
theorem d_pv_init_37 : decode m_pv_init.2.2.1 37 = .ok (.bipush 60, 2) := by decide +kernel
theorem d_pv_init_39 : decode m_pv_init.2.2.1 39 = .ok (.newarray .int, 2) := by decide +kernel
theorem d_pv_init_41 : decode m_pv_init.2.2.1 41 = .ok (.putfield 26, 3) := by decide +kernel
theorem d_pv_init_44 : decode m_pv_init.2.2.1 44 = .ok (.return_, 1) := by decide +kernel
theorem d_pv_copyFrom_0 : decode m_pv_copyFrom.2.2.1 0 = .ok (.aload_n 0, 1) := by decide +kernel
theorem d_pv_copyFrom_1 : decode m_pv_copyFrom.2.2.1 1 = .ok (.aload_n 1, 1) := by decide +kernel
theorem d_pv_copyFrom_2 : decode m_pv_copyFrom.2.2.1 2 = .ok (.getfield 29, 3) := by decide +kernel
theorem d_pv_copyFrom_5 : decode m_pv_copyFrom.2.2.1 5 = .ok (.bipush 60, 2) := by decide +kernel
theorem d_pv_copyFrom_7 : decode m_pv_copyFrom.2.2.1 7 = .ok (.invokestatic 33, 3) := by decide +kernel
theorem d_pv_copyFrom_10 : decode m_pv_copyFrom.2.2.1 10 = .ok (.putfield 29, 3) := by decide +kernel
theorem d_pv_copyFrom_13 : decode m_pv_copyFrom.2.2.1 13 = .ok (.iconst 0, 1) := by decide +kernel
theorem d_pv_copyFrom_14 : decode m_pv_copyFrom.2.2.1 14 = .ok (.istore_n 2, 1) := by decide +kernel
theorem d_pv_copyFrom_15 : decode m_pv_copyFrom.2.2.1 15 = .ok (.iload_n 2, 1) := by decide +kernel
theorem d_pv_copyFrom_16 : decode m_pv_copyFrom.2.2.1 16 = .ok (.aload_n 0, 1) := by decide +kernel
theorem d_pv_copyFrom_17 : decode m_pv_copyFrom.2.2.1 17 = .ok (.getfield 29, 3) := by decide +kernel
theorem d_pv_copyFrom_20 : decode m_pv_copyFrom.2.2.1 20 = .ok (.if_icmp .ge 69, 3) := by decide +kernel
theorem d_pv_copyFrom_23 : decode m_pv_copyFrom.2.2.1 23 = .ok (.aload_n 0, 1) := by decide +kernel
theorem d_pv_copyFrom_24 : decode m_pv_copyFrom.2.2.1 24 = .ok (.getfield 9, 3) := by decide +kernel
theorem d_pv_copyFrom_27 : decode m_pv_copyFrom.2.2.1 27 = .ok (.iload_n 2, 1) := by decide +kernel
theorem d_pv_copyFrom_28 : decode m_pv_copyFrom.2.2.1 28 = .ok (.aload_n 1, 1) := by decide +kernel
theorem d_pv_copyFrom_29 : decode m_pv_copyFrom.2.2.1 29 = .ok (.getfield 9, 3) := by decide +kernel
theorem d_pv_copyFrom_32 : decode m_pv_copyFrom.2.2.1 32 = .ok (.iload_n 2, 1) := by decide +kernel
theorem d_pv_copyFrom_33 : decode m_pv_copyFrom.2.2.1 33 = .ok (.laload, 1) := by decide +kernel
theorem d_pv_copyFrom_34 : decode m_pv_copyFrom.2.2.1 34 = .ok (.lastore, 1) := by decide +kernel
theorem d_pv_copyFrom_35 : decode m_pv_copyFrom.2.2.1 35 = .ok (.aload_n 0, 1) := by decide +kernel
theorem d_pv_copyFrom_36 : decode m_pv_copyFrom.2.2.1 36 = .ok (.getfield 15, 3) := by decide +kernel
theorem d_pv_copyFrom_39 : decode m_pv_copyFrom.2.2.1 39 = .ok (.iload_n 2, 1) := by decide +kernel
theorem d_pv_copyFrom_40 : decode m_pv_copyFrom.2.2.1 40 = .ok (.aload_n 1, 1) := by decide +kernel
theorem d_pv_copyFrom_41 : decode m_pv_copyFrom.2.2.1 41 = .ok (.getfield 15, 3) := by decide +kernel
theorem d_pv_copyFrom_44 : decode m_pv_copyFrom.2.2.1 44 = .ok (.iload_n 2, 1) := by decide +kernel
theorem d_pv_copyFrom_45 : decode m_pv_copyFrom.2.2.1 45 = .ok (.iaload, 1) := by decide +kernel
theorem d_pv_copyFrom_46 : decode m_pv_copyFrom.2.2.1 46 = .ok (.iastore, 1) := by decide +kernel
theorem d_pv_copyFrom_47 : decode m_pv_copyFrom.2.2.1 47 = .ok (.aload_n 0, 1) := by decide +kernel
theorem d_pv_copyFrom_48 : decode m_pv_copyFrom.2.2.1 48 = .ok (.getfield 19, 3) := by decide +kernel
theorem d_pv_copyFrom_51 : decode m_pv_copyFrom.2.2.1 51 = .ok (.iload_n 2, 1) := by decide +kernel
theorem d_pv_copyFrom_52 : decode m_pv_copyFrom.2.2.1 52 = .ok (.aload_n 1, 1) := by decide +kernel
theorem d_pv_copyFrom_53 : decode m_pv_copyFrom.2.2.1 53 = .ok (.getfield 19, 3) := by decide +kernel
theorem d_pv_copyFrom_56 : decode m_pv_copyFrom.2.2.1 56 = .ok (.iload_n 2, 1) := by decide +kernel
theorem d_pv_copyFrom_57 : decode m_pv_copyFrom.2.2.1 57 = .ok (.baload, 1) := by decide +kernel
theorem d_pv_copyFrom_58 : decode m_pv_copyFrom.2.2.1 58 = .ok (.bastore, 1) := by decide +kernel
theorem d_pv_copyFrom_59 : decode m_pv_copyFrom.2.2.1 59 = .ok (.aload_n 0, 1) := by decide +kernel
theorem d_pv_copyFrom_60 : decode m_pv_copyFrom.2.2.1 60 = .ok (.getfield 23, 3) := by decide +kernel
theorem d_pv_copyFrom_63 : decode m_pv_copyFrom.2.2.1 63 = .ok (.iload_n 2, 1) := by decide +kernel
theorem d_pv_copyFrom_64 : decode m_pv_copyFrom.2.2.1 64 = .ok (.aload_n 1, 1) := by decide +kernel
theorem d_pv_copyFrom_65 : decode m_pv_copyFrom.2.2.1 65 = .ok (.getfield 23, 3) := by decide +kernel
theorem d_pv_copyFrom_68 : decode m_pv_copyFrom.2.2.1 68 = .ok (.iload_n 2, 1) := by decide +kernel
theorem d_pv_copyFrom_69 : decode m_pv_copyFrom.2.2.1 69 = .ok (.iaload, 1) := by decide +kernel
theorem d_pv_copyFrom_70 : decode m_pv_copyFrom.2.2.1 70 = .ok (.iastore, 1) := by decide +kernel
theorem d_pv_copyFrom_71 : decode m_pv_copyFrom.2.2.1 71 = .ok (.aload_n 0, 1) := by decide +kernel
theorem d_pv_copyFrom_72 : decode m_pv_copyFrom.2.2.1 72 = .ok (.getfield 26, 3) := by decide +kernel
theorem d_pv_copyFrom_75 : decode m_pv_copyFrom.2.2.1 75 = .ok (.iload_n 2, 1) := by decide +kernel
theorem d_pv_copyFrom_76 : decode m_pv_copyFrom.2.2.1 76 = .ok (.aload_n 1, 1) := by decide +kernel
theorem d_pv_copyFrom_77 : decode m_pv_copyFrom.2.2.1 77 = .ok (.getfield 26, 3) := by decide +kernel
theorem d_pv_copyFrom_80 : decode m_pv_copyFrom.2.2.1 80 = .ok (.iload_n 2, 1) := by decide +kernel
theorem d_pv_copyFrom_81 : decode m_pv_copyFrom.2.2.1 81 = .ok (.iaload, 1) := by decide +kernel
theorem d_pv_copyFrom_82 : decode m_pv_copyFrom.2.2.1 82 = .ok (.iastore, 1) := by decide +kernel
theorem d_pv_copyFrom_83 : decode m_pv_copyFrom.2.2.1 83 = .ok (.iinc 2 1, 3) := by decide +kernel
theorem d_pv_copyFrom_86 : decode m_pv_copyFrom.2.2.1 86 = .ok (.goto (-71), 3) := by decide +kernel
theorem d_pv_copyFrom_89 : decode m_pv_copyFrom.2.2.1 89 = .ok (.return_, 1) := by decide +kernel
theorem d_pv_has_0 : decode m_pv_has.2.2.1 0 = .ok (.iload_n 1, 1) := by decide +kernel
theorem d_pv_has_1 : decode m_pv_has.2.2.1 1 = .ok (.ifCond .lt 15, 3) := by decide +kernel
theorem d_pv_has_4 : decode m_pv_has.2.2.1 4 = .ok (.iload_n 1, 1) := by decide +kernel
theorem d_pv_has_5 : decode m_pv_has.2.2.1 5 = .ok (.aload_n 0, 1) := by decide +kernel
theorem d_pv_has_6 : decode m_pv_has.2.2.1 6 = .ok (.getfield 29, 3) := by decide +kernel
theorem d_pv_has_9 : decode m_pv_has.2.2.1 9 = .ok (.if_icmp .ge 7, 3) := by decide +kernel
theorem d_pv_has_12 : decode m_pv_has.2.2.1 12 = .ok (.iconst 1, 1) := by decide +kernel
theorem d_pv_has_13 : decode m_pv_has.2.2.1 13 = .ok (.goto 4, 3) := by decide +kernel
theorem d_pv_has_16 : decode m_pv_has.2.2.1 16 = .ok (.iconst 0, 1) := by decide +kernel
theorem d_pv_has_17 : decode m_pv_has.2.2.1 17 = .ok (.ireturn, 1) := by decide +kernel
theorem d_pv_positionOf_0 : decode m_pv_positionOf.2.2.1 0 = .ok (.iconst 0, 1) := by decide +kernel
theorem d_pv_positionOf_1 : decode m_pv_positionOf.2.2.1 1 = .ok (.istore_n 3, 1) := by decide +kernel
theorem d_pv_positionOf_2 : decode m_pv_positionOf.2.2.1 2 = .ok (.iload_n 3, 1) := by decide +kernel
theorem d_pv_positionOf_3 : decode m_pv_positionOf.2.2.1 3 = .ok (.aload_n 0, 1) := by decide +kernel
theorem d_pv_positionOf_4 : decode m_pv_positionOf.2.2.1 4 = .ok (.getfield 29, 3) := by decide +kernel
theorem d_pv_positionOf_7 : decode m_pv_positionOf.2.2.1 7 = .ok (.if_icmp .ge 22, 3) := by decide +kernel
theorem d_pv_positionOf_10 : decode m_pv_positionOf.2.2.1 10 = .ok (.aload_n 0, 1) := by decide +kernel
theorem d_pv_positionOf_11 : decode m_pv_positionOf.2.2.1 11 = .ok (.getfield 9, 3) := by decide +kernel
theorem d_pv_positionOf_14 : decode m_pv_positionOf.2.2.1 14 = .ok (.iload_n 3, 1) := by decide +kernel
theorem d_pv_positionOf_15 : decode m_pv_positionOf.2.2.1 15 = .ok (.laload, 1) := by decide +kernel
theorem d_pv_positionOf_16 : decode m_pv_positionOf.2.2.1 16 = .ok (.lload_n 1, 1) := by decide +kernel
theorem d_pv_positionOf_17 : decode m_pv_positionOf.2.2.1 17 = .ok (.lcmp, 1) := by decide +kernel
theorem d_pv_positionOf_18 : decode m_pv_positionOf.2.2.1 18 = .ok (.ifCond .ne 5, 3) := by decide +kernel
theorem d_pv_positionOf_21 : decode m_pv_positionOf.2.2.1 21 = .ok (.iload_n 3, 1) := by decide +kernel
theorem d_pv_positionOf_22 : decode m_pv_positionOf.2.2.1 22 = .ok (.ireturn, 1) := by decide +kernel
theorem d_pv_positionOf_23 : decode m_pv_positionOf.2.2.1 23 = .ok (.iinc 3 1, 3) := by decide +kernel
theorem d_pv_positionOf_26 : decode m_pv_positionOf.2.2.1 26 = .ok (.goto (-24), 3) := by decide +kernel
theorem d_pv_positionOf_29 : decode m_pv_positionOf.2.2.1 29 = .ok (.iconst (-1), 1) := by decide +kernel
theorem d_pv_positionOf_30 : decode m_pv_positionOf.2.2.1 30 = .ok (.ireturn, 1) := by decide +kernel
theorem d_pv_positionOfOrigin_0 : decode m_pv_positionOfOrigin.2.2.1 0 = .ok (.iconst 0, 1) := by decide +kernel
theorem d_pv_positionOfOrigin_1 : decode m_pv_positionOfOrigin.2.2.1 1 = .ok (.istore_n 2, 1) := by decide +kernel
theorem d_pv_positionOfOrigin_2 : decode m_pv_positionOfOrigin.2.2.1 2 = .ok (.iload_n 1, 1) := by decide +kernel
theorem d_pv_positionOfOrigin_3 : decode m_pv_positionOfOrigin.2.2.1 3 = .ok (.ifCond .lt 29, 3) := by decide +kernel
theorem d_pv_positionOfOrigin_6 : decode m_pv_positionOfOrigin.2.2.1 6 = .ok (.iload_n 2, 1) := by decide +kernel
theorem d_pv_positionOfOrigin_7 : decode m_pv_positionOfOrigin.2.2.1 7 = .ok (.aload_n 0, 1) := by decide +kernel
theorem d_pv_positionOfOrigin_8 : decode m_pv_positionOfOrigin.2.2.1 8 = .ok (.getfield 29, 3) := by decide +kernel
theorem d_pv_positionOfOrigin_11 : decode m_pv_positionOfOrigin.2.2.1 11 = .ok (.if_icmp .ge 21, 3) := by decide +kernel
theorem d_pv_positionOfOrigin_14 : decode m_pv_positionOfOrigin.2.2.1 14 = .ok (.aload_n 0, 1) := by decide +kernel
theorem d_pv_positionOfOrigin_15 : decode m_pv_positionOfOrigin.2.2.1 15 = .ok (.getfield 23, 3) := by decide +kernel
theorem d_pv_positionOfOrigin_18 : decode m_pv_positionOfOrigin.2.2.1 18 = .ok (.iload_n 2, 1) := by decide +kernel
theorem d_pv_positionOfOrigin_19 : decode m_pv_positionOfOrigin.2.2.1 19 = .ok (.iaload, 1) := by decide +kernel
theorem d_pv_positionOfOrigin_20 : decode m_pv_positionOfOrigin.2.2.1 20 = .ok (.iload_n 1, 1) := by decide +kernel
theorem d_pv_positionOfOrigin_21 : decode m_pv_positionOfOrigin.2.2.1 21 = .ok (.if_icmp .ne 5, 3) := by decide +kernel
theorem d_pv_positionOfOrigin_24 : decode m_pv_positionOfOrigin.2.2.1 24 = .ok (.iload_n 2, 1) := by decide +kernel
theorem d_pv_positionOfOrigin_25 : decode m_pv_positionOfOrigin.2.2.1 25 = .ok (.ireturn, 1) := by decide +kernel
theorem d_pv_positionOfOrigin_26 : decode m_pv_positionOfOrigin.2.2.1 26 = .ok (.iinc 2 1, 3) := by decide +kernel
theorem d_pv_positionOfOrigin_29 : decode m_pv_positionOfOrigin.2.2.1 29 = .ok (.goto (-27), 3) := by decide +kernel
theorem d_pv_positionOfOrigin_32 : decode m_pv_positionOfOrigin.2.2.1 32 = .ok (.iconst (-1), 1) := by decide +kernel
theorem d_pv_positionOfOrigin_33 : decode m_pv_positionOfOrigin.2.2.1 33 = .ok (.ireturn, 1) := by decide +kernel
theorem d_pv_positionInForce_0 : decode m_pv_positionInForce.2.2.1 0 = .ok (.aload_n 0, 1) := by decide +kernel
theorem d_pv_positionInForce_1 : decode m_pv_positionInForce.2.2.1 1 = .ok (.iload_n 1, 1) := by decide +kernel
theorem d_pv_positionInForce_2 : decode m_pv_positionInForce.2.2.1 2 = .ok (.invokevirtual 39, 3) := by decide +kernel
theorem d_pv_positionInForce_5 : decode m_pv_positionInForce.2.2.1 5 = .ok (.istore_n 2, 1) := by decide +kernel
theorem d_pv_positionInForce_6 : decode m_pv_positionInForce.2.2.1 6 = .ok (.iload_n 2, 1) := by decide +kernel
theorem d_pv_positionInForce_7 : decode m_pv_positionInForce.2.2.1 7 = .ok (.ifCond .lt 16, 3) := by decide +kernel
theorem d_pv_positionInForce_10 : decode m_pv_positionInForce.2.2.1 10 = .ok (.aload_n 0, 1) := by decide +kernel
theorem d_pv_positionInForce_11 : decode m_pv_positionInForce.2.2.1 11 = .ok (.getfield 19, 3) := by decide +kernel
theorem d_pv_positionInForce_14 : decode m_pv_positionInForce.2.2.1 14 = .ok (.iload_n 2, 1) := by decide +kernel
theorem d_pv_positionInForce_15 : decode m_pv_positionInForce.2.2.1 15 = .ok (.baload, 1) := by decide +kernel
theorem d_pv_positionInForce_16 : decode m_pv_positionInForce.2.2.1 16 = .ok (.ifCond .eq 7, 3) := by decide +kernel
theorem d_pv_positionInForce_19 : decode m_pv_positionInForce.2.2.1 19 = .ok (.iconst (-1), 1) := by decide +kernel
theorem d_pv_positionInForce_20 : decode m_pv_positionInForce.2.2.1 20 = .ok (.goto 4, 3) := by decide +kernel
theorem d_pv_positionInForce_23 : decode m_pv_positionInForce.2.2.1 23 = .ok (.iload_n 2, 1) := by decide +kernel
theorem d_pv_positionInForce_24 : decode m_pv_positionInForce.2.2.1 24 = .ok (.ireturn, 1) := by decide +kernel
theorem d_pv_labelOfNewLastChild_0 : decode m_pv_labelOfNewLastChild.2.2.1 0 = .ok (.lload_n 1, 1) := by decide +kernel
theorem d_pv_labelOfNewLastChild_1 : decode m_pv_labelOfNewLastChild.2.2.1 1 = .ok (.invokestatic 43, 3) := by decide +kernel
theorem d_pv_labelOfNewLastChild_4 : decode m_pv_labelOfNewLastChild.2.2.1 4 = .ok (.iconst 1, 1) := by decide +kernel
theorem d_pv_labelOfNewLastChild_5 : decode m_pv_labelOfNewLastChild.2.2.1 5 = .ok (.iadd, 1) := by decide +kernel
theorem d_pv_labelOfNewLastChild_6 : decode m_pv_labelOfNewLastChild.2.2.1 6 = .ok (.istore_n 3, 1) := by decide +kernel
theorem d_pv_labelOfNewLastChild_7 : decode m_pv_labelOfNewLastChild.2.2.1 7 = .ok (.iconst 0, 1) := by decide +kernel
theorem d_pv_labelOfNewLastChild_8 : decode m_pv_labelOfNewLastChild.2.2.1 8 = .ok (.istore 4, 2) := by decide +kernel
theorem d_pv_labelOfNewLastChild_10 : decode m_pv_labelOfNewLastChild.2.2.1 10 = .ok (.iconst 0, 1) := by decide +kernel
theorem d_pv_labelOfNewLastChild_11 : decode m_pv_labelOfNewLastChild.2.2.1 11 = .ok (.istore 5, 2) := by decide +kernel
theorem d_pv_labelOfNewLastChild_13 : decode m_pv_labelOfNewLastChild.2.2.1 13 = .ok (.iload 5, 2) := by decide +kernel
theorem d_pv_labelOfNewLastChild_15 : decode m_pv_labelOfNewLastChild.2.2.1 15 = .ok (.aload_n 0, 1) := by decide +kernel
theorem d_pv_labelOfNewLastChild_16 : decode m_pv_labelOfNewLastChild.2.2.1 16 = .ok (.getfield 29, 3) := by decide +kernel
theorem d_pv_labelOfNewLastChild_19 : decode m_pv_labelOfNewLastChild.2.2.1 19 = .ok (.if_icmp .ge 45, 3) := by decide +kernel
theorem d_pv_labelOfNewLastChild_22 : decode m_pv_labelOfNewLastChild.2.2.1 22 = .ok (.aload_n 0, 1) := by decide +kernel
theorem d_pv_labelOfNewLastChild_23 : decode m_pv_labelOfNewLastChild.2.2.1 23 = .ok (.getfield 9, 3) := by decide +kernel
theorem d_pv_labelOfNewLastChild_26 : decode m_pv_labelOfNewLastChild.2.2.1 26 = .ok (.iload 5, 2) := by decide +kernel
theorem d_pv_labelOfNewLastChild_28 : decode m_pv_labelOfNewLastChild.2.2.1 28 = .ok (.laload, 1) := by decide +kernel
theorem d_pv_labelOfNewLastChild_29 : decode m_pv_labelOfNewLastChild.2.2.1 29 = .ok (.invokestatic 49, 3) := by decide +kernel
theorem d_pv_labelOfNewLastChild_32 : decode m_pv_labelOfNewLastChild.2.2.1 32 = .ok (.lload_n 1, 1) := by decide +kernel
theorem d_pv_labelOfNewLastChild_33 : decode m_pv_labelOfNewLastChild.2.2.1 33 = .ok (.lcmp, 1) := by decide +kernel
theorem d_pv_labelOfNewLastChild_34 : decode m_pv_labelOfNewLastChild.2.2.1 34 = .ok (.ifCond .ne 24, 3) := by decide +kernel
theorem d_pv_labelOfNewLastChild_37 : decode m_pv_labelOfNewLastChild.2.2.1 37 = .ok (.iload 4, 2) := by decide +kernel
theorem d_pv_labelOfNewLastChild_39 : decode m_pv_labelOfNewLastChild.2.2.1 39 = .ok (.aload_n 0, 1) := by decide +kernel
theorem d_pv_labelOfNewLastChild_40 : decode m_pv_labelOfNewLastChild.2.2.1 40 = .ok (.getfield 9, 3) := by decide +kernel
theorem d_pv_labelOfNewLastChild_43 : decode m_pv_labelOfNewLastChild.2.2.1 43 = .ok (.iload 5, 2) := by decide +kernel
theorem d_pv_labelOfNewLastChild_45 : decode m_pv_labelOfNewLastChild.2.2.1 45 = .ok (.laload, 1) := by decide +kernel
theorem d_pv_labelOfNewLastChild_46 : decode m_pv_labelOfNewLastChild.2.2.1 46 = .ok (.iload_n 3, 1) := by decide +kernel
theorem d_pv_labelOfNewLastChild_47 : decode m_pv_labelOfNewLastChild.2.2.1 47 = .ok (.invokestatic 53, 3) := by decide +kernel
theorem d_pv_labelOfNewLastChild_50 : decode m_pv_labelOfNewLastChild.2.2.1 50 = .ok (.invokestatic 57, 3) := by decide +kernel
theorem d_pv_labelOfNewLastChild_53 : decode m_pv_labelOfNewLastChild.2.2.1 53 = .ok (.invokestatic 60, 3) := by decide +kernel
theorem d_pv_labelOfNewLastChild_56 : decode m_pv_labelOfNewLastChild.2.2.1 56 = .ok (.istore 4, 2) := by decide +kernel
theorem d_pv_labelOfNewLastChild_58 : decode m_pv_labelOfNewLastChild.2.2.1 58 = .ok (.iinc 5 1, 3) := by decide +kernel
theorem d_pv_labelOfNewLastChild_61 : decode m_pv_labelOfNewLastChild.2.2.1 61 = .ok (.goto (-48), 3) := by decide +kernel
theorem d_pv_labelOfNewLastChild_64 : decode m_pv_labelOfNewLastChild.2.2.1 64 = .ok (.iload 4, 2) := by decide +kernel
theorem d_pv_labelOfNewLastChild_66 : decode m_pv_labelOfNewLastChild.2.2.1 66 = .ok (.bipush 99, 2) := by decide +kernel
theorem d_pv_labelOfNewLastChild_68 : decode m_pv_labelOfNewLastChild.2.2.1 68 = .ok (.if_icmp .ge 13, 3) := by decide +kernel
theorem d_pv_labelOfNewLastChild_71 : decode m_pv_labelOfNewLastChild.2.2.1 71 = .ok (.iload 4, 2) := by decide +kernel
theorem d_pv_labelOfNewLastChild_73 : decode m_pv_labelOfNewLastChild.2.2.1 73 = .ok (.iconst 1, 1) := by decide +kernel
theorem d_pv_labelOfNewLastChild_74 : decode m_pv_labelOfNewLastChild.2.2.1 74 = .ok (.iadd, 1) := by decide +kernel
theorem d_pv_labelOfNewLastChild_75 : decode m_pv_labelOfNewLastChild.2.2.1 75 = .ok (.invokestatic 63, 3) := by decide +kernel
theorem d_pv_labelOfNewLastChild_78 : decode m_pv_labelOfNewLastChild.2.2.1 78 = .ok (.goto 5, 3) := by decide +kernel
theorem d_pv_labelOfNewLastChild_81 : decode m_pv_labelOfNewLastChild.2.2.1 81 = .ok (.bipush (-7), 2) := by decide +kernel
theorem d_pv_labelOfNewLastChild_83 : decode m_pv_labelOfNewLastChild.2.2.1 83 = .ok (.ireturn, 1) := by decide +kernel
theorem d_pv_labelAfter_0 : decode m_pv_labelAfter.2.2.1 0 = .ok (.lload_n 1, 1) := by decide +kernel
theorem d_pv_labelAfter_1 : decode m_pv_labelAfter.2.2.1 1 = .ok (.invokestatic 43, 3) := by decide +kernel
theorem d_pv_labelAfter_4 : decode m_pv_labelAfter.2.2.1 4 = .ok (.istore 5, 2) := by decide +kernel
theorem d_pv_labelAfter_6 : decode m_pv_labelAfter.2.2.1 6 = .ok (.lload_n 1, 1) := by decide +kernel
theorem d_pv_labelAfter_7 : decode m_pv_labelAfter.2.2.1 7 = .ok (.iload 5, 2) := by decide +kernel
theorem d_pv_labelAfter_9 : decode m_pv_labelAfter.2.2.1 9 = .ok (.invokestatic 53, 3) := by decide +kernel
theorem d_pv_labelAfter_12 : decode m_pv_labelAfter.2.2.1 12 = .ok (.istore 6, 2) := by decide +kernel
theorem d_pv_labelAfter_14 : decode m_pv_labelAfter.2.2.1 14 = .ok (.iload 6, 2) := by decide +kernel
theorem d_pv_labelAfter_16 : decode m_pv_labelAfter.2.2.1 16 = .ok (.invokestatic 57, 3) := by decide +kernel
theorem d_pv_labelAfter_19 : decode m_pv_labelAfter.2.2.1 19 = .ok (.iconst 1, 1) := by decide +kernel
theorem d_pv_labelAfter_20 : decode m_pv_labelAfter.2.2.1 20 = .ok (.iadd, 1) := by decide +kernel
theorem d_pv_labelAfter_21 : decode m_pv_labelAfter.2.2.1 21 = .ok (.invokestatic 63, 3) := by decide +kernel
theorem d_pv_labelAfter_24 : decode m_pv_labelAfter.2.2.1 24 = .ok (.istore 7, 2) := by decide +kernel
theorem d_pv_labelAfter_26 : decode m_pv_labelAfter.2.2.1 26 = .ok (.lload_n 1, 1) := by decide +kernel
theorem d_pv_labelAfter_27 : decode m_pv_labelAfter.2.2.1 27 = .ok (.invokestatic 49, 3) := by decide +kernel
theorem d_pv_labelAfter_30 : decode m_pv_labelAfter.2.2.1 30 = .ok (.lstore 8, 2) := by decide +kernel
theorem d_pv_labelAfter_32 : decode m_pv_labelAfter.2.2.1 32 = .ok (.iconst 0, 1) := by decide +kernel
theorem d_pv_labelAfter_33 : decode m_pv_labelAfter.2.2.1 33 = .ok (.istore 10, 2) := by decide +kernel
theorem d_pv_labelAfter_35 : decode m_pv_labelAfter.2.2.1 35 = .ok (.iload 10, 2) := by decide +kernel
theorem d_pv_labelAfter_37 : decode m_pv_labelAfter.2.2.1 37 = .ok (.aload_n 0, 1) := by decide +kernel
theorem d_pv_labelAfter_38 : decode m_pv_labelAfter.2.2.1 38 = .ok (.getfield 29, 3) := by decide +kernel
theorem d_pv_labelAfter_41 : decode m_pv_labelAfter.2.2.1 41 = .ok (.if_icmp .ge 57, 3) := by decide +kernel
theorem d_pv_labelAfter_44 : decode m_pv_labelAfter.2.2.1 44 = .ok (.aload_n 0, 1) := by decide +kernel
theorem d_pv_labelAfter_45 : decode m_pv_labelAfter.2.2.1 45 = .ok (.getfield 9, 3) := by decide +kernel
theorem d_pv_labelAfter_48 : decode m_pv_labelAfter.2.2.1 48 = .ok (.iload 10, 2) := by decide +kernel
theorem d_pv_labelAfter_50 : decode m_pv_labelAfter.2.2.1 50 = .ok (.laload, 1) := by decide +kernel
theorem d_pv_labelAfter_51 : decode m_pv_labelAfter.2.2.1 51 = .ok (.lstore 11, 2) := by decide +kernel
theorem d_pv_labelAfter_53 : decode m_pv_labelAfter.2.2.1 53 = .ok (.lload 11, 2) := by decide +kernel
theorem d_pv_labelAfter_55 : decode m_pv_labelAfter.2.2.1 55 = .ok (.lload_n 1, 1) := by decide +kernel
theorem d_pv_labelAfter_56 : decode m_pv_labelAfter.2.2.1 56 = .ok (.lcmp, 1) := by decide +kernel
theorem d_pv_labelAfter_57 : decode m_pv_labelAfter.2.2.1 57 = .ok (.ifCond .le 35, 3) := by decide +kernel
theorem d_pv_labelAfter_60 : decode m_pv_labelAfter.2.2.1 60 = .ok (.lload 11, 2) := by decide +kernel
theorem d_pv_labelAfter_62 : decode m_pv_labelAfter.2.2.1 62 = .ok (.lload_n 3, 1) := by decide +kernel
theorem d_pv_labelAfter_63 : decode m_pv_labelAfter.2.2.1 63 = .ok (.lcmp, 1) := by decide +kernel
theorem d_pv_labelAfter_64 : decode m_pv_labelAfter.2.2.1 64 = .ok (.ifCond .eq 28, 3) := by decide +kernel
theorem d_pv_labelAfter_67 : decode m_pv_labelAfter.2.2.1 67 = .ok (.lload 11, 2) := by decide +kernel
theorem d_pv_labelAfter_69 : decode m_pv_labelAfter.2.2.1 69 = .ok (.invokestatic 49, 3) := by decide +kernel
theorem d_pv_labelAfter_72 : decode m_pv_labelAfter.2.2.1 72 = .ok (.lload 8, 2) := by decide +kernel
theorem d_pv_labelAfter_74 : decode m_pv_labelAfter.2.2.1 74 = .ok (.lcmp, 1) := by decide +kernel
theorem d_pv_labelAfter_75 : decode m_pv_labelAfter.2.2.1 75 = .ok (.ifCond .ne 17, 3) := by decide +kernel
theorem d_pv_labelAfter_78 : decode m_pv_labelAfter.2.2.1 78 = .ok (.iload 7, 2) := by decide +kernel
theorem d_pv_labelAfter_80 : decode m_pv_labelAfter.2.2.1 80 = .ok (.lload 11, 2) := by decide +kernel
theorem d_pv_labelAfter_82 : decode m_pv_labelAfter.2.2.1 82 = .ok (.iload 5, 2) := by decide +kernel
theorem d_pv_labelAfter_84 : decode m_pv_labelAfter.2.2.1 84 = .ok (.invokestatic 53, 3) := by decide +kernel
theorem d_pv_labelAfter_87 : decode m_pv_labelAfter.2.2.1 87 = .ok (.invokestatic 33, 3) := by decide +kernel
theorem d_pv_labelAfter_90 : decode m_pv_labelAfter.2.2.1 90 = .ok (.istore 7, 2) := by decide +kernel
theorem d_pv_labelAfter_92 : decode m_pv_labelAfter.2.2.1 92 = .ok (.iinc 10 1, 3) := by decide +kernel
theorem d_pv_labelAfter_95 : decode m_pv_labelAfter.2.2.1 95 = .ok (.goto (-60), 3) := by decide +kernel
theorem d_pv_labelAfter_98 : decode m_pv_labelAfter.2.2.1 98 = .ok (.iload 6, 2) := by decide +kernel
theorem d_pv_labelAfter_100 : decode m_pv_labelAfter.2.2.1 100 = .ok (.iload 7, 2) := by decide +kernel
theorem d_pv_labelAfter_102 : decode m_pv_labelAfter.2.2.1 102 = .ok (.invokestatic 66, 3) := by decide +kernel
theorem d_pv_labelAfter_105 : decode m_pv_labelAfter.2.2.1 105 = .ok (.ireturn, 1) := by decide +kernel
theorem d_pv_append_0 : decode m_pv_append.2.2.1 0 = .ok (.aload_n 0, 1) := by decide +kernel
theorem d_pv_append_1 : decode m_pv_append.2.2.1 1 = .ok (.getfield 29, 3) := by decide +kernel
theorem d_pv_append_4 : decode m_pv_append.2.2.1 4 = .ok (.bipush 60, 2) := by decide +kernel
theorem d_pv_append_6 : decode m_pv_append.2.2.1 6 = .ok (.if_icmp .lt 4, 3) := by decide +kernel
theorem d_pv_append_9 : decode m_pv_append.2.2.1 9 = .ok (.return_, 1) := by decide +kernel
theorem d_pv_append_10 : decode m_pv_append.2.2.1 10 = .ok (.aload_n 0, 1) := by decide +kernel
theorem d_pv_append_11 : decode m_pv_append.2.2.1 11 = .ok (.getfield 9, 3) := by decide +kernel
theorem d_pv_append_14 : decode m_pv_append.2.2.1 14 = .ok (.aload_n 0, 1) := by decide +kernel
theorem d_pv_append_15 : decode m_pv_append.2.2.1 15 = .ok (.getfield 29, 3) := by decide +kernel
theorem d_pv_append_18 : decode m_pv_append.2.2.1 18 = .ok (.lload_n 1, 1) := by decide +kernel
theorem d_pv_append_19 : decode m_pv_append.2.2.1 19 = .ok (.lastore, 1) := by decide +kernel
theorem d_pv_append_20 : decode m_pv_append.2.2.1 20 = .ok (.aload_n 0, 1) := by decide +kernel
theorem d_pv_append_21 : decode m_pv_append.2.2.1 21 = .ok (.getfield 15, 3) := by decide +kernel
theorem d_pv_append_24 : decode m_pv_append.2.2.1 24 = .ok (.aload_n 0, 1) := by decide +kernel
theorem d_pv_append_25 : decode m_pv_append.2.2.1 25 = .ok (.getfield 29, 3) := by decide +kernel
theorem d_pv_append_28 : decode m_pv_append.2.2.1 28 = .ok (.iload_n 3, 1) := by decide +kernel
theorem d_pv_append_29 : decode m_pv_append.2.2.1 29 = .ok (.iastore, 1) := by decide +kernel
theorem d_pv_append_30 : decode m_pv_append.2.2.1 30 = .ok (.aload_n 0, 1) := by decide +kernel
theorem d_pv_append_31 : decode m_pv_append.2.2.1 31 = .ok (.getfield 19, 3) := by decide +kernel
theorem d_pv_append_34 : decode m_pv_append.2.2.1 34 = .ok (.aload_n 0, 1) := by decide +kernel
theorem d_pv_append_35 : decode m_pv_append.2.2.1 35 = .ok (.getfield 29, 3) := by decide +kernel
theorem d_pv_append_38 : decode m_pv_append.2.2.1 38 = .ok (.iconst 0, 1) := by decide +kernel
theorem d_pv_append_39 : decode m_pv_append.2.2.1 39 = .ok (.bastore, 1) := by decide +kernel
theorem d_pv_append_40 : decode m_pv_append.2.2.1 40 = .ok (.aload_n 0, 1) := by decide +kernel
theorem d_pv_append_41 : decode m_pv_append.2.2.1 41 = .ok (.getfield 23, 3) := by decide +kernel
theorem d_pv_append_44 : decode m_pv_append.2.2.1 44 = .ok (.aload_n 0, 1) := by decide +kernel
theorem d_pv_append_45 : decode m_pv_append.2.2.1 45 = .ok (.getfield 29, 3) := by decide +kernel
theorem d_pv_append_48 : decode m_pv_append.2.2.1 48 = .ok (.iload 4, 2) := by decide +kernel
theorem d_pv_append_50 : decode m_pv_append.2.2.1 50 = .ok (.iastore, 1) := by decide +kernel
theorem d_pv_append_51 : decode m_pv_append.2.2.1 51 = .ok (.aload_n 0, 1) := by decide +kernel
theorem d_pv_append_52 : decode m_pv_append.2.2.1 52 = .ok (.getfield 26, 3) := by decide +kernel
theorem d_pv_append_55 : decode m_pv_append.2.2.1 55 = .ok (.aload_n 0, 1) := by decide +kernel
theorem d_pv_append_56 : decode m_pv_append.2.2.1 56 = .ok (.getfield 29, 3) := by decide +kernel
theorem d_pv_append_59 : decode m_pv_append.2.2.1 59 = .ok (.iload 5, 2) := by decide +kernel
theorem d_pv_append_61 : decode m_pv_append.2.2.1 61 = .ok (.iastore, 1) := by decide +kernel
theorem d_pv_append_62 : decode m_pv_append.2.2.1 62 = .ok (.aload_n 0, 1) := by decide +kernel
theorem d_pv_append_63 : decode m_pv_append.2.2.1 63 = .ok (.dup, 1) := by decide +kernel
theorem d_pv_append_64 : decode m_pv_append.2.2.1 64 = .ok (.getfield 29, 3) := by decide +kernel
theorem d_pv_append_67 : decode m_pv_append.2.2.1 67 = .ok (.iconst 1, 1) := by decide +kernel
theorem d_pv_append_68 : decode m_pv_append.2.2.1 68 = .ok (.iadd, 1) := by decide +kernel
theorem d_pv_append_69 : decode m_pv_append.2.2.1 69 = .ok (.putfield 29, 3) := by decide +kernel
theorem d_pv_append_72 : decode m_pv_append.2.2.1 72 = .ok (.return_, 1) := by decide +kernel
theorem d_pv_repeal_0 : decode m_pv_repeal.2.2.1 0 = .ok (.lload_n 1, 1) := by decide +kernel
theorem d_pv_repeal_1 : decode m_pv_repeal.2.2.1 1 = .ok (.invokestatic 43, 3) := by decide +kernel
theorem d_pv_repeal_4 : decode m_pv_repeal.2.2.1 4 = .ok (.istore_n 3, 1) := by decide +kernel
theorem d_pv_repeal_5 : decode m_pv_repeal.2.2.1 5 = .ok (.iconst 0, 1) := by decide +kernel
theorem d_pv_repeal_6 : decode m_pv_repeal.2.2.1 6 = .ok (.istore 4, 2) := by decide +kernel
theorem d_pv_repeal_8 : decode m_pv_repeal.2.2.1 8 = .ok (.iload 4, 2) := by decide +kernel
theorem d_pv_repeal_10 : decode m_pv_repeal.2.2.1 10 = .ok (.aload_n 0, 1) := by decide +kernel
theorem d_pv_repeal_11 : decode m_pv_repeal.2.2.1 11 = .ok (.getfield 29, 3) := by decide +kernel
theorem d_pv_repeal_14 : decode m_pv_repeal.2.2.1 14 = .ok (.if_icmp .ge 32, 3) := by decide +kernel
theorem d_pv_repeal_17 : decode m_pv_repeal.2.2.1 17 = .ok (.aload_n 0, 1) := by decide +kernel
theorem d_pv_repeal_18 : decode m_pv_repeal.2.2.1 18 = .ok (.getfield 9, 3) := by decide +kernel
theorem d_pv_repeal_21 : decode m_pv_repeal.2.2.1 21 = .ok (.iload 4, 2) := by decide +kernel
theorem d_pv_repeal_23 : decode m_pv_repeal.2.2.1 23 = .ok (.laload, 1) := by decide +kernel
theorem d_pv_repeal_24 : decode m_pv_repeal.2.2.1 24 = .ok (.lload_n 1, 1) := by decide +kernel
theorem d_pv_repeal_25 : decode m_pv_repeal.2.2.1 25 = .ok (.iload_n 3, 1) := by decide +kernel
theorem d_pv_repeal_26 : decode m_pv_repeal.2.2.1 26 = .ok (.invokestatic 69, 3) := by decide +kernel
theorem d_pv_repeal_29 : decode m_pv_repeal.2.2.1 29 = .ok (.ifCond .eq 11, 3) := by decide +kernel
theorem d_pv_repeal_32 : decode m_pv_repeal.2.2.1 32 = .ok (.aload_n 0, 1) := by decide +kernel
theorem d_pv_repeal_33 : decode m_pv_repeal.2.2.1 33 = .ok (.getfield 19, 3) := by decide +kernel
theorem d_pv_repeal_36 : decode m_pv_repeal.2.2.1 36 = .ok (.iload 4, 2) := by decide +kernel
theorem d_pv_repeal_38 : decode m_pv_repeal.2.2.1 38 = .ok (.iconst 1, 1) := by decide +kernel
theorem d_pv_repeal_39 : decode m_pv_repeal.2.2.1 39 = .ok (.bastore, 1) := by decide +kernel
theorem d_pv_repeal_40 : decode m_pv_repeal.2.2.1 40 = .ok (.iinc 4 1, 3) := by decide +kernel
theorem d_pv_repeal_43 : decode m_pv_repeal.2.2.1 43 = .ok (.goto (-35), 3) := by decide +kernel
theorem d_pv_repeal_46 : decode m_pv_repeal.2.2.1 46 = .ok (.return_, 1) := by decide +kernel
theorem d_pv_changePath_0 : decode m_pv_changePath.2.2.1 0 = .ok (.lload_n 1, 1) := by decide +kernel
theorem d_pv_changePath_1 : decode m_pv_changePath.2.2.1 1 = .ok (.invokestatic 43, 3) := by decide +kernel
theorem d_pv_changePath_4 : decode m_pv_changePath.2.2.1 4 = .ok (.istore 5, 2) := by decide +kernel
theorem d_pv_changePath_6 : decode m_pv_changePath.2.2.1 6 = .ok (.iconst 0, 1) := by decide +kernel
theorem d_pv_changePath_7 : decode m_pv_changePath.2.2.1 7 = .ok (.istore 6, 2) := by decide +kernel
theorem d_pv_changePath_9 : decode m_pv_changePath.2.2.1 9 = .ok (.iload 6, 2) := by decide +kernel
theorem d_pv_changePath_11 : decode m_pv_changePath.2.2.1 11 = .ok (.aload_n 0, 1) := by decide +kernel
theorem d_pv_changePath_12 : decode m_pv_changePath.2.2.1 12 = .ok (.getfield 29, 3) := by decide +kernel
theorem d_pv_changePath_15 : decode m_pv_changePath.2.2.1 15 = .ok (.if_icmp .ge 46, 3) := by decide +kernel
theorem d_pv_changePath_18 : decode m_pv_changePath.2.2.1 18 = .ok (.aload_n 0, 1) := by decide +kernel
theorem d_pv_changePath_19 : decode m_pv_changePath.2.2.1 19 = .ok (.getfield 9, 3) := by decide +kernel
theorem d_pv_changePath_22 : decode m_pv_changePath.2.2.1 22 = .ok (.iload 6, 2) := by decide +kernel
theorem d_pv_changePath_24 : decode m_pv_changePath.2.2.1 24 = .ok (.laload, 1) := by decide +kernel
theorem d_pv_changePath_25 : decode m_pv_changePath.2.2.1 25 = .ok (.lload_n 1, 1) := by decide +kernel
theorem d_pv_changePath_26 : decode m_pv_changePath.2.2.1 26 = .ok (.iload 5, 2) := by decide +kernel
theorem d_pv_changePath_28 : decode m_pv_changePath.2.2.1 28 = .ok (.invokestatic 69, 3) := by decide +kernel
theorem d_pv_changePath_31 : decode m_pv_changePath.2.2.1 31 = .ok (.ifCond .eq 24, 3) := by decide +kernel
theorem d_pv_changePath_34 : decode m_pv_changePath.2.2.1 34 = .ok (.aload_n 0, 1) := by decide +kernel
theorem d_pv_changePath_35 : decode m_pv_changePath.2.2.1 35 = .ok (.getfield 9, 3) := by decide +kernel
theorem d_pv_changePath_38 : decode m_pv_changePath.2.2.1 38 = .ok (.iload 6, 2) := by decide +kernel
theorem d_pv_changePath_40 : decode m_pv_changePath.2.2.1 40 = .ok (.lload_n 3, 1) := by decide +kernel
theorem d_pv_changePath_41 : decode m_pv_changePath.2.2.1 41 = .ok (.aload_n 0, 1) := by decide +kernel
theorem d_pv_changePath_42 : decode m_pv_changePath.2.2.1 42 = .ok (.getfield 9, 3) := by decide +kernel
theorem d_pv_changePath_45 : decode m_pv_changePath.2.2.1 45 = .ok (.iload 6, 2) := by decide +kernel
theorem d_pv_changePath_47 : decode m_pv_changePath.2.2.1 47 = .ok (.laload, 1) := by decide +kernel
theorem d_pv_changePath_48 : decode m_pv_changePath.2.2.1 48 = .ok (.iload 5, 2) := by decide +kernel
theorem d_pv_changePath_50 : decode m_pv_changePath.2.2.1 50 = .ok (.invokestatic 73, 3) := by decide +kernel
theorem d_pv_changePath_53 : decode m_pv_changePath.2.2.1 53 = .ok (.lor, 1) := by decide +kernel
theorem d_pv_changePath_54 : decode m_pv_changePath.2.2.1 54 = .ok (.lastore, 1) := by decide +kernel
theorem d_pv_changePath_55 : decode m_pv_changePath.2.2.1 55 = .ok (.iinc 6 1, 3) := by decide +kernel
theorem d_pv_changePath_58 : decode m_pv_changePath.2.2.1 58 = .ok (.goto (-49), 3) := by decide +kernel
theorem d_pv_changePath_61 : decode m_pv_changePath.2.2.1 61 = .ok (.return_, 1) := by decide +kernel
theorem d_pv_renumberChildren_0 : decode m_pv_renumberChildren.2.2.1 0 = .ok (.lload_n 1, 1) := by decide +kernel
theorem d_pv_renumberChildren_1 : decode m_pv_renumberChildren.2.2.1 1 = .ok (.invokestatic 43, 3) := by decide +kernel
theorem d_pv_renumberChildren_4 : decode m_pv_renumberChildren.2.2.1 4 = .ok (.istore_n 3, 1) := by decide +kernel
theorem d_pv_renumberChildren_5 : decode m_pv_renumberChildren.2.2.1 5 = .ok (.iload_n 3, 1) := by decide +kernel
theorem d_pv_renumberChildren_6 : decode m_pv_renumberChildren.2.2.1 6 = .ok (.iconst 1, 1) := by decide +kernel
theorem d_pv_renumberChildren_7 : decode m_pv_renumberChildren.2.2.1 7 = .ok (.iadd, 1) := by decide +kernel
theorem d_pv_renumberChildren_8 : decode m_pv_renumberChildren.2.2.1 8 = .ok (.istore 4, 2) := by decide +kernel
theorem d_pv_renumberChildren_10 : decode m_pv_renumberChildren.2.2.1 10 = .ok (.iconst 0, 1) := by decide +kernel
theorem d_pv_renumberChildren_11 : decode m_pv_renumberChildren.2.2.1 11 = .ok (.istore 5, 2) := by decide +kernel
theorem d_pv_renumberChildren_13 : decode m_pv_renumberChildren.2.2.1 13 = .ok (.iconst 0, 1) := by decide +kernel
theorem d_pv_renumberChildren_14 : decode m_pv_renumberChildren.2.2.1 14 = .ok (.istore 6, 2) := by decide +kernel
theorem d_pv_renumberChildren_16 : decode m_pv_renumberChildren.2.2.1 16 = .ok (.iconst 0, 1) := by decide +kernel
theorem d_pv_renumberChildren_17 : decode m_pv_renumberChildren.2.2.1 17 = .ok (.istore 7, 2) := by decide +kernel
theorem d_pv_renumberChildren_19 : decode m_pv_renumberChildren.2.2.1 19 = .ok (.iconst 0, 1) := by decide +kernel
theorem d_pv_renumberChildren_20 : decode m_pv_renumberChildren.2.2.1 20 = .ok (.istore 8, 2) := by decide +kernel
theorem d_pv_renumberChildren_22 : decode m_pv_renumberChildren.2.2.1 22 = .ok (.iload 8, 2) := by decide +kernel
theorem d_pv_renumberChildren_24 : decode m_pv_renumberChildren.2.2.1 24 = .ok (.aload_n 0, 1) := by decide +kernel
theorem d_pv_renumberChildren_25 : decode m_pv_renumberChildren.2.2.1 25 = .ok (.getfield 29, 3) := by decide +kernel
theorem d_pv_renumberChildren_28 : decode m_pv_renumberChildren.2.2.1 28 = .ok (.if_icmp .ge 107, 3) := by decide +kernel
theorem d_pv_renumberChildren_31 : decode m_pv_renumberChildren.2.2.1 31 = .ok (.aload_n 0, 1) := by decide +kernel
theorem d_pv_renumberChildren_32 : decode m_pv_renumberChildren.2.2.1 32 = .ok (.getfield 9, 3) := by decide +kernel
theorem d_pv_renumberChildren_35 : decode m_pv_renumberChildren.2.2.1 35 = .ok (.iload 8, 2) := by decide +kernel
theorem d_pv_renumberChildren_37 : decode m_pv_renumberChildren.2.2.1 37 = .ok (.laload, 1) := by decide +kernel
theorem d_pv_renumberChildren_38 : decode m_pv_renumberChildren.2.2.1 38 = .ok (.lstore 9, 2) := by decide +kernel
theorem d_pv_renumberChildren_40 : decode m_pv_renumberChildren.2.2.1 40 = .ok (.lload 9, 2) := by decide +kernel
theorem d_pv_renumberChildren_42 : decode m_pv_renumberChildren.2.2.1 42 = .ok (.lload_n 1, 1) := by decide +kernel
theorem d_pv_renumberChildren_43 : decode m_pv_renumberChildren.2.2.1 43 = .ok (.lcmp, 1) := by decide +kernel
theorem d_pv_renumberChildren_44 : decode m_pv_renumberChildren.2.2.1 44 = .ok (.ifCond .eq 74, 3) := by decide +kernel
theorem d_pv_renumberChildren_47 : decode m_pv_renumberChildren.2.2.1 47 = .ok (.lload 9, 2) := by decide +kernel
theorem d_pv_renumberChildren_49 : decode m_pv_renumberChildren.2.2.1 49 = .ok (.lload_n 1, 1) := by decide +kernel
theorem d_pv_renumberChildren_50 : decode m_pv_renumberChildren.2.2.1 50 = .ok (.iload_n 3, 1) := by decide +kernel
theorem d_pv_renumberChildren_51 : decode m_pv_renumberChildren.2.2.1 51 = .ok (.invokestatic 69, 3) := by decide +kernel
theorem d_pv_renumberChildren_54 : decode m_pv_renumberChildren.2.2.1 54 = .ok (.ifCond .eq 64, 3) := by decide +kernel
theorem d_pv_renumberChildren_57 : decode m_pv_renumberChildren.2.2.1 57 = .ok (.lload 9, 2) := by decide +kernel
theorem d_pv_renumberChildren_59 : decode m_pv_renumberChildren.2.2.1 59 = .ok (.invokestatic 43, 3) := by decide +kernel
theorem d_pv_renumberChildren_62 : decode m_pv_renumberChildren.2.2.1 62 = .ok (.iload 4, 2) := by decide +kernel
theorem d_pv_renumberChildren_64 : decode m_pv_renumberChildren.2.2.1 64 = .ok (.if_icmp .ne 27, 3) := by decide +kernel
theorem d_pv_renumberChildren_67 : decode m_pv_renumberChildren.2.2.1 67 = .ok (.aload_n 0, 1) := by decide +kernel
theorem d_pv_renumberChildren_68 : decode m_pv_renumberChildren.2.2.1 68 = .ok (.getfield 19, 3) := by decide +kernel
theorem d_pv_renumberChildren_71 : decode m_pv_renumberChildren.2.2.1 71 = .ok (.iload 8, 2) := by decide +kernel
theorem d_pv_renumberChildren_73 : decode m_pv_renumberChildren.2.2.1 73 = .ok (.baload, 1) := by decide +kernel
theorem d_pv_renumberChildren_74 : decode m_pv_renumberChildren.2.2.1 74 = .ok (.istore 6, 2) := by decide +kernel
theorem d_pv_renumberChildren_76 : decode m_pv_renumberChildren.2.2.1 76 = .ok (.iload 5, 2) := by decide +kernel
theorem d_pv_renumberChildren_78 : decode m_pv_renumberChildren.2.2.1 78 = .ok (.iload 6, 2) := by decide +kernel
theorem d_pv_renumberChildren_80 : decode m_pv_renumberChildren.2.2.1 80 = .ok (.ifCond .eq 7, 3) := by decide +kernel
theorem d_pv_renumberChildren_83 : decode m_pv_renumberChildren.2.2.1 83 = .ok (.iconst 0, 1) := by decide +kernel
theorem d_pv_renumberChildren_84 : decode m_pv_renumberChildren.2.2.1 84 = .ok (.goto 4, 3) := by decide +kernel
theorem d_pv_renumberChildren_87 : decode m_pv_renumberChildren.2.2.1 87 = .ok (.iconst 1, 1) := by decide +kernel
theorem d_pv_renumberChildren_88 : decode m_pv_renumberChildren.2.2.1 88 = .ok (.iadd, 1) := by decide +kernel
theorem d_pv_renumberChildren_89 : decode m_pv_renumberChildren.2.2.1 89 = .ok (.istore 5, 2) := by decide +kernel
theorem d_pv_renumberChildren_91 : decode m_pv_renumberChildren.2.2.1 91 = .ok (.iload 6, 2) := by decide +kernel
theorem d_pv_renumberChildren_93 : decode m_pv_renumberChildren.2.2.1 93 = .ok (.ifCond .eq 6, 3) := by decide +kernel
theorem d_pv_renumberChildren_96 : decode m_pv_renumberChildren.2.2.1 96 = .ok (.goto 33, 3) := by decide +kernel
theorem d_pv_renumberChildren_99 : decode m_pv_renumberChildren.2.2.1 99 = .ok (.aload_n 0, 1) := by decide +kernel
theorem d_pv_renumberChildren_100 : decode m_pv_renumberChildren.2.2.1 100 = .ok (.getfield 9, 3) := by decide +kernel
theorem d_pv_renumberChildren_103 : decode m_pv_renumberChildren.2.2.1 103 = .ok (.iload 8, 2) := by decide +kernel
theorem d_pv_renumberChildren_105 : decode m_pv_renumberChildren.2.2.1 105 = .ok (.lload 9, 2) := by decide +kernel
theorem d_pv_renumberChildren_107 : decode m_pv_renumberChildren.2.2.1 107 = .ok (.iload 4, 2) := by decide +kernel
theorem d_pv_renumberChildren_109 : decode m_pv_renumberChildren.2.2.1 109 = .ok (.iload 5, 2) := by decide +kernel
theorem d_pv_renumberChildren_111 : decode m_pv_renumberChildren.2.2.1 111 = .ok (.invokestatic 63, 3) := by decide +kernel
theorem d_pv_renumberChildren_114 : decode m_pv_renumberChildren.2.2.1 114 = .ok (.invokestatic 77, 3) := by decide +kernel
theorem d_pv_renumberChildren_117 : decode m_pv_renumberChildren.2.2.1 117 = .ok (.lastore, 1) := by decide +kernel
theorem d_pv_renumberChildren_118 : decode m_pv_renumberChildren.2.2.1 118 = .ok (.aload_n 0, 1) := by decide +kernel
theorem d_pv_renumberChildren_119 : decode m_pv_renumberChildren.2.2.1 119 = .ok (.iload 7, 2) := by decide +kernel
theorem d_pv_renumberChildren_121 : decode m_pv_renumberChildren.2.2.1 121 = .ok (.iload 8, 2) := by decide +kernel
theorem d_pv_renumberChildren_123 : decode m_pv_renumberChildren.2.2.1 123 = .ok (.invokevirtual 81, 3) := by decide +kernel
theorem d_pv_renumberChildren_126 : decode m_pv_renumberChildren.2.2.1 126 = .ok (.iinc 7 1, 3) := by decide +kernel
theorem d_pv_renumberChildren_129 : decode m_pv_renumberChildren.2.2.1 129 = .ok (.iinc 8 1, 3) := by decide +kernel
theorem d_pv_renumberChildren_132 : decode m_pv_renumberChildren.2.2.1 132 = .ok (.goto (-110), 3) := by decide +kernel
theorem d_pv_renumberChildren_135 : decode m_pv_renumberChildren.2.2.1 135 = .ok (.aload_n 0, 1) := by decide +kernel
theorem d_pv_renumberChildren_136 : decode m_pv_renumberChildren.2.2.1 136 = .ok (.iload 7, 2) := by decide +kernel
theorem d_pv_renumberChildren_138 : decode m_pv_renumberChildren.2.2.1 138 = .ok (.putfield 29, 3) := by decide +kernel
theorem d_pv_renumberChildren_141 : decode m_pv_renumberChildren.2.2.1 141 = .ok (.return_, 1) := by decide +kernel
theorem d_pv_restoreOrder_0 : decode m_pv_restoreOrder.2.2.1 0 = .ok (.iconst 1, 1) := by decide +kernel
theorem d_pv_restoreOrder_1 : decode m_pv_restoreOrder.2.2.1 1 = .ok (.istore_n 1, 1) := by decide +kernel
theorem d_pv_restoreOrder_2 : decode m_pv_restoreOrder.2.2.1 2 = .ok (.iload_n 1, 1) := by decide +kernel
theorem d_pv_restoreOrder_3 : decode m_pv_restoreOrder.2.2.1 3 = .ok (.aload_n 0, 1) := by decide +kernel
theorem d_pv_restoreOrder_4 : decode m_pv_restoreOrder.2.2.1 4 = .ok (.getfield 29, 3) := by decide +kernel
theorem d_pv_restoreOrder_7 : decode m_pv_restoreOrder.2.2.1 7 = .ok (.if_icmp .ge 47, 3) := by decide +kernel
theorem d_pv_restoreOrder_10 : decode m_pv_restoreOrder.2.2.1 10 = .ok (.iload_n 1, 1) := by decide +kernel
theorem d_pv_restoreOrder_11 : decode m_pv_restoreOrder.2.2.1 11 = .ok (.istore_n 2, 1) := by decide +kernel
theorem d_pv_restoreOrder_12 : decode m_pv_restoreOrder.2.2.1 12 = .ok (.iload_n 2, 1) := by decide +kernel
theorem d_pv_restoreOrder_13 : decode m_pv_restoreOrder.2.2.1 13 = .ok (.ifCond .le 35, 3) := by decide +kernel
theorem d_pv_restoreOrder_16 : decode m_pv_restoreOrder.2.2.1 16 = .ok (.aload_n 0, 1) := by decide +kernel
theorem d_pv_restoreOrder_17 : decode m_pv_restoreOrder.2.2.1 17 = .ok (.getfield 9, 3) := by decide +kernel
theorem d_pv_restoreOrder_20 : decode m_pv_restoreOrder.2.2.1 20 = .ok (.iload_n 2, 1) := by decide +kernel
theorem d_pv_restoreOrder_21 : decode m_pv_restoreOrder.2.2.1 21 = .ok (.iconst 1, 1) := by decide +kernel
theorem d_pv_restoreOrder_22 : decode m_pv_restoreOrder.2.2.1 22 = .ok (.isub, 1) := by decide +kernel
theorem d_pv_restoreOrder_23 : decode m_pv_restoreOrder.2.2.1 23 = .ok (.laload, 1) := by decide +kernel
theorem d_pv_restoreOrder_24 : decode m_pv_restoreOrder.2.2.1 24 = .ok (.aload_n 0, 1) := by decide +kernel
theorem d_pv_restoreOrder_25 : decode m_pv_restoreOrder.2.2.1 25 = .ok (.getfield 9, 3) := by decide +kernel
theorem d_pv_restoreOrder_28 : decode m_pv_restoreOrder.2.2.1 28 = .ok (.iload_n 2, 1) := by decide +kernel
theorem d_pv_restoreOrder_29 : decode m_pv_restoreOrder.2.2.1 29 = .ok (.laload, 1) := by decide +kernel
theorem d_pv_restoreOrder_30 : decode m_pv_restoreOrder.2.2.1 30 = .ok (.lcmp, 1) := by decide +kernel
theorem d_pv_restoreOrder_31 : decode m_pv_restoreOrder.2.2.1 31 = .ok (.ifCond .le 17, 3) := by decide +kernel
theorem d_pv_restoreOrder_34 : decode m_pv_restoreOrder.2.2.1 34 = .ok (.aload_n 0, 1) := by decide +kernel
theorem d_pv_restoreOrder_35 : decode m_pv_restoreOrder.2.2.1 35 = .ok (.iload_n 2, 1) := by decide +kernel
theorem d_pv_restoreOrder_36 : decode m_pv_restoreOrder.2.2.1 36 = .ok (.iconst 1, 1) := by decide +kernel
theorem d_pv_restoreOrder_37 : decode m_pv_restoreOrder.2.2.1 37 = .ok (.isub, 1) := by decide +kernel
theorem d_pv_restoreOrder_38 : decode m_pv_restoreOrder.2.2.1 38 = .ok (.iload_n 2, 1) := by decide +kernel
theorem d_pv_restoreOrder_39 : decode m_pv_restoreOrder.2.2.1 39 = .ok (.invokevirtual 81, 3) := by decide +kernel
theorem d_pv_restoreOrder_42 : decode m_pv_restoreOrder.2.2.1 42 = .ok (.iinc 2 (-1), 3) := by decide +kernel
theorem d_pv_restoreOrder_45 : decode m_pv_restoreOrder.2.2.1 45 = .ok (.goto (-33), 3) := by decide +kernel
theorem d_pv_restoreOrder_48 : decode m_pv_restoreOrder.2.2.1 48 = .ok (.iinc 1 1, 3) := by decide +kernel
theorem d_pv_restoreOrder_51 : decode m_pv_restoreOrder.2.2.1 51 = .ok (.goto (-49), 3) := by decide +kernel
theorem d_pv_restoreOrder_54 : decode m_pv_restoreOrder.2.2.1 54 = .ok (.return_, 1) := by decide +kernel
theorem d_pv_swap_0 : decode m_pv_swap.2.2.1 0 = .ok (.aload_n 0, 1) := by decide +kernel
theorem d_pv_swap_1 : decode m_pv_swap.2.2.1 1 = .ok (.getfield 9, 3) := by decide +kernel
theorem d_pv_swap_4 : decode m_pv_swap.2.2.1 4 = .ok (.iload_n 1, 1) := by decide +kernel
theorem d_pv_swap_5 : decode m_pv_swap.2.2.1 5 = .ok (.laload, 1) := by decide +kernel
theorem d_pv_swap_6 : decode m_pv_swap.2.2.1 6 = .ok (.lstore_n 3, 1) := by decide +kernel
theorem d_pv_swap_7 : decode m_pv_swap.2.2.1 7 = .ok (.aload_n 0, 1) := by decide +kernel
theorem d_pv_swap_8 : decode m_pv_swap.2.2.1 8 = .ok (.getfield 9, 3) := by decide +kernel
theorem d_pv_swap_11 : decode m_pv_swap.2.2.1 11 = .ok (.iload_n 1, 1) := by decide +kernel
theorem d_pv_swap_12 : decode m_pv_swap.2.2.1 12 = .ok (.aload_n 0, 1) := by decide +kernel
theorem d_pv_swap_13 : decode m_pv_swap.2.2.1 13 = .ok (.getfield 9, 3) := by decide +kernel
theorem d_pv_swap_16 : decode m_pv_swap.2.2.1 16 = .ok (.iload_n 2, 1) := by decide +kernel
theorem d_pv_swap_17 : decode m_pv_swap.2.2.1 17 = .ok (.laload, 1) := by decide +kernel
theorem d_pv_swap_18 : decode m_pv_swap.2.2.1 18 = .ok (.lastore, 1) := by decide +kernel
theorem d_pv_swap_19 : decode m_pv_swap.2.2.1 19 = .ok (.aload_n 0, 1) := by decide +kernel
theorem d_pv_swap_20 : decode m_pv_swap.2.2.1 20 = .ok (.getfield 9, 3) := by decide +kernel
theorem d_pv_swap_23 : decode m_pv_swap.2.2.1 23 = .ok (.iload_n 2, 1) := by decide +kernel
theorem d_pv_swap_24 : decode m_pv_swap.2.2.1 24 = .ok (.lload_n 3, 1) := by decide +kernel
theorem d_pv_swap_25 : decode m_pv_swap.2.2.1 25 = .ok (.lastore, 1) := by decide +kernel
theorem d_pv_swap_26 : decode m_pv_swap.2.2.1 26 = .ok (.aload_n 0, 1) := by decide +kernel
theorem d_pv_swap_27 : decode m_pv_swap.2.2.1 27 = .ok (.getfield 15, 3) := by decide +kernel
theorem d_pv_swap_30 : decode m_pv_swap.2.2.1 30 = .ok (.iload_n 1, 1) := by decide +kernel
theorem d_pv_swap_31 : decode m_pv_swap.2.2.1 31 = .ok (.iaload, 1) := by decide +kernel
theorem d_pv_swap_32 : decode m_pv_swap.2.2.1 32 = .ok (.istore 5, 2) := by decide +kernel
theorem d_pv_swap_34 : decode m_pv_swap.2.2.1 34 = .ok (.aload_n 0, 1) := by decide +kernel
theorem d_pv_swap_35 : decode m_pv_swap.2.2.1 35 = .ok (.getfield 15, 3) := by decide +kernel
theorem d_pv_swap_38 : decode m_pv_swap.2.2.1 38 = .ok (.iload_n 1, 1) := by decide +kernel
theorem d_pv_swap_39 : decode m_pv_swap.2.2.1 39 = .ok (.aload_n 0, 1) := by decide +kernel
theorem d_pv_swap_40 : decode m_pv_swap.2.2.1 40 = .ok (.getfield 15, 3) := by decide +kernel
theorem d_pv_swap_43 : decode m_pv_swap.2.2.1 43 = .ok (.iload_n 2, 1) := by decide +kernel
theorem d_pv_swap_44 : decode m_pv_swap.2.2.1 44 = .ok (.iaload, 1) := by decide +kernel
theorem d_pv_swap_45 : decode m_pv_swap.2.2.1 45 = .ok (.iastore, 1) := by decide +kernel
theorem d_pv_swap_46 : decode m_pv_swap.2.2.1 46 = .ok (.aload_n 0, 1) := by decide +kernel
theorem d_pv_swap_47 : decode m_pv_swap.2.2.1 47 = .ok (.getfield 15, 3) := by decide +kernel
theorem d_pv_swap_50 : decode m_pv_swap.2.2.1 50 = .ok (.iload_n 2, 1) := by decide +kernel
theorem d_pv_swap_51 : decode m_pv_swap.2.2.1 51 = .ok (.iload 5, 2) := by decide +kernel
theorem d_pv_swap_53 : decode m_pv_swap.2.2.1 53 = .ok (.iastore, 1) := by decide +kernel
theorem d_pv_swap_54 : decode m_pv_swap.2.2.1 54 = .ok (.aload_n 0, 1) := by decide +kernel
theorem d_pv_swap_55 : decode m_pv_swap.2.2.1 55 = .ok (.getfield 19, 3) := by decide +kernel
theorem d_pv_swap_58 : decode m_pv_swap.2.2.1 58 = .ok (.iload_n 1, 1) := by decide +kernel
theorem d_pv_swap_59 : decode m_pv_swap.2.2.1 59 = .ok (.baload, 1) := by decide +kernel
theorem d_pv_swap_60 : decode m_pv_swap.2.2.1 60 = .ok (.istore 6, 2) := by decide +kernel
theorem d_pv_swap_62 : decode m_pv_swap.2.2.1 62 = .ok (.aload_n 0, 1) := by decide +kernel
theorem d_pv_swap_63 : decode m_pv_swap.2.2.1 63 = .ok (.getfield 19, 3) := by decide +kernel
theorem d_pv_swap_66 : decode m_pv_swap.2.2.1 66 = .ok (.iload_n 1, 1) := by decide +kernel
theorem d_pv_swap_67 : decode m_pv_swap.2.2.1 67 = .ok (.aload_n 0, 1) := by decide +kernel
theorem d_pv_swap_68 : decode m_pv_swap.2.2.1 68 = .ok (.getfield 19, 3) := by decide +kernel
theorem d_pv_swap_71 : decode m_pv_swap.2.2.1 71 = .ok (.iload_n 2, 1) := by decide +kernel
theorem d_pv_swap_72 : decode m_pv_swap.2.2.1 72 = .ok (.baload, 1) := by decide +kernel
theorem d_pv_swap_73 : decode m_pv_swap.2.2.1 73 = .ok (.bastore, 1) := by decide +kernel
theorem d_pv_swap_74 : decode m_pv_swap.2.2.1 74 = .ok (.aload_n 0, 1) := by decide +kernel
theorem d_pv_swap_75 : decode m_pv_swap.2.2.1 75 = .ok (.getfield 19, 3) := by decide +kernel
theorem d_pv_swap_78 : decode m_pv_swap.2.2.1 78 = .ok (.iload_n 2, 1) := by decide +kernel
theorem d_pv_swap_79 : decode m_pv_swap.2.2.1 79 = .ok (.iload 6, 2) := by decide +kernel
theorem d_pv_swap_81 : decode m_pv_swap.2.2.1 81 = .ok (.bastore, 1) := by decide +kernel
theorem d_pv_swap_82 : decode m_pv_swap.2.2.1 82 = .ok (.aload_n 0, 1) := by decide +kernel
theorem d_pv_swap_83 : decode m_pv_swap.2.2.1 83 = .ok (.getfield 23, 3) := by decide +kernel
theorem d_pv_swap_86 : decode m_pv_swap.2.2.1 86 = .ok (.iload_n 1, 1) := by decide +kernel
theorem d_pv_swap_87 : decode m_pv_swap.2.2.1 87 = .ok (.iaload, 1) := by decide +kernel
theorem d_pv_swap_88 : decode m_pv_swap.2.2.1 88 = .ok (.istore 7, 2) := by decide +kernel
theorem d_pv_swap_90 : decode m_pv_swap.2.2.1 90 = .ok (.aload_n 0, 1) := by decide +kernel
theorem d_pv_swap_91 : decode m_pv_swap.2.2.1 91 = .ok (.getfield 23, 3) := by decide +kernel
theorem d_pv_swap_94 : decode m_pv_swap.2.2.1 94 = .ok (.iload_n 1, 1) := by decide +kernel
theorem d_pv_swap_95 : decode m_pv_swap.2.2.1 95 = .ok (.aload_n 0, 1) := by decide +kernel
theorem d_pv_swap_96 : decode m_pv_swap.2.2.1 96 = .ok (.getfield 23, 3) := by decide +kernel
theorem d_pv_swap_99 : decode m_pv_swap.2.2.1 99 = .ok (.iload_n 2, 1) := by decide +kernel
theorem d_pv_swap_100 : decode m_pv_swap.2.2.1 100 = .ok (.iaload, 1) := by decide +kernel
theorem d_pv_swap_101 : decode m_pv_swap.2.2.1 101 = .ok (.iastore, 1) := by decide +kernel
theorem d_pv_swap_102 : decode m_pv_swap.2.2.1 102 = .ok (.aload_n 0, 1) := by decide +kernel
theorem d_pv_swap_103 : decode m_pv_swap.2.2.1 103 = .ok (.getfield 23, 3) := by decide +kernel
theorem d_pv_swap_106 : decode m_pv_swap.2.2.1 106 = .ok (.iload_n 2, 1) := by decide +kernel
theorem d_pv_swap_107 : decode m_pv_swap.2.2.1 107 = .ok (.iload 7, 2) := by decide +kernel
theorem d_pv_swap_109 : decode m_pv_swap.2.2.1 109 = .ok (.iastore, 1) := by decide +kernel
theorem d_pv_swap_110 : decode m_pv_swap.2.2.1 110 = .ok (.aload_n 0, 1) := by decide +kernel
theorem d_pv_swap_111 : decode m_pv_swap.2.2.1 111 = .ok (.getfield 26, 3) := by decide +kernel
theorem d_pv_swap_114 : decode m_pv_swap.2.2.1 114 = .ok (.iload_n 1, 1) := by decide +kernel
theorem d_pv_swap_115 : decode m_pv_swap.2.2.1 115 = .ok (.iaload, 1) := by decide +kernel
theorem d_pv_swap_116 : decode m_pv_swap.2.2.1 116 = .ok (.istore 8, 2) := by decide +kernel
theorem d_pv_swap_118 : decode m_pv_swap.2.2.1 118 = .ok (.aload_n 0, 1) := by decide +kernel
theorem d_pv_swap_119 : decode m_pv_swap.2.2.1 119 = .ok (.getfield 26, 3) := by decide +kernel
theorem d_pv_swap_122 : decode m_pv_swap.2.2.1 122 = .ok (.iload_n 1, 1) := by decide +kernel
theorem d_pv_swap_123 : decode m_pv_swap.2.2.1 123 = .ok (.aload_n 0, 1) := by decide +kernel
theorem d_pv_swap_124 : decode m_pv_swap.2.2.1 124 = .ok (.getfield 26, 3) := by decide +kernel
theorem d_pv_swap_127 : decode m_pv_swap.2.2.1 127 = .ok (.iload_n 2, 1) := by decide +kernel
theorem d_pv_swap_128 : decode m_pv_swap.2.2.1 128 = .ok (.iaload, 1) := by decide +kernel
theorem d_pv_swap_129 : decode m_pv_swap.2.2.1 129 = .ok (.iastore, 1) := by decide +kernel
theorem d_pv_swap_130 : decode m_pv_swap.2.2.1 130 = .ok (.aload_n 0, 1) := by decide +kernel
theorem d_pv_swap_131 : decode m_pv_swap.2.2.1 131 = .ok (.getfield 26, 3) := by decide +kernel
theorem d_pv_swap_134 : decode m_pv_swap.2.2.1 134 = .ok (.iload_n 2, 1) := by decide +kernel
theorem d_pv_swap_135 : decode m_pv_swap.2.2.1 135 = .ok (.iload 8, 2) := by decide +kernel
theorem d_pv_swap_137 : decode m_pv_swap.2.2.1 137 = .ok (.iastore, 1) := by decide +kernel
theorem d_pv_swap_138 : decode m_pv_swap.2.2.1 138 = .ok (.return_, 1) := by decide +kernel
theorem d_pv_firstDifferenceFrom_0 : decode m_pv_firstDifferenceFrom.2.2.1 0 = .ok (.aload_n 0, 1) := by decide +kernel
theorem d_pv_firstDifferenceFrom_1 : decode m_pv_firstDifferenceFrom.2.2.1 1 = .ok (.getfield 29, 3) := by decide +kernel
theorem d_pv_firstDifferenceFrom_4 : decode m_pv_firstDifferenceFrom.2.2.1 4 = .ok (.aload_n 1, 1) := by decide +kernel
theorem d_pv_firstDifferenceFrom_5 : decode m_pv_firstDifferenceFrom.2.2.1 5 = .ok (.getfield 29, 3) := by decide +kernel
theorem d_pv_firstDifferenceFrom_8 : decode m_pv_firstDifferenceFrom.2.2.1 8 = .ok (.invokestatic 33, 3) := by decide +kernel
theorem d_pv_firstDifferenceFrom_11 : decode m_pv_firstDifferenceFrom.2.2.1 11 = .ok (.istore_n 2, 1) := by decide +kernel
theorem d_pv_firstDifferenceFrom_12 : decode m_pv_firstDifferenceFrom.2.2.1 12 = .ok (.iconst 0, 1) := by decide +kernel
theorem d_pv_firstDifferenceFrom_13 : decode m_pv_firstDifferenceFrom.2.2.1 13 = .ok (.istore_n 3, 1) := by decide +kernel
theorem d_pv_firstDifferenceFrom_14 : decode m_pv_firstDifferenceFrom.2.2.1 14 = .ok (.iload_n 3, 1) := by decide +kernel
theorem d_pv_firstDifferenceFrom_15 : decode m_pv_firstDifferenceFrom.2.2.1 15 = .ok (.iload_n 2, 1) := by decide +kernel
theorem d_pv_firstDifferenceFrom_16 : decode m_pv_firstDifferenceFrom.2.2.1 16 = .ok (.if_icmp .ge 20, 3) := by decide +kernel
theorem d_pv_firstDifferenceFrom_19 : decode m_pv_firstDifferenceFrom.2.2.1 19 = .ok (.aload_n 0, 1) := by decide +kernel
theorem d_pv_firstDifferenceFrom_20 : decode m_pv_firstDifferenceFrom.2.2.1 20 = .ok (.iload_n 3, 1) := by decide +kernel
theorem d_pv_firstDifferenceFrom_21 : decode m_pv_firstDifferenceFrom.2.2.1 21 = .ok (.aload_n 1, 1) := by decide +kernel
theorem d_pv_firstDifferenceFrom_22 : decode m_pv_firstDifferenceFrom.2.2.1 22 = .ok (.invokevirtual 85, 3) := by decide +kernel
theorem d_pv_firstDifferenceFrom_25 : decode m_pv_firstDifferenceFrom.2.2.1 25 = .ok (.ifCond .eq 5, 3) := by decide +kernel
theorem d_pv_firstDifferenceFrom_28 : decode m_pv_firstDifferenceFrom.2.2.1 28 = .ok (.iload_n 3, 1) := by decide +kernel
theorem d_pv_firstDifferenceFrom_29 : decode m_pv_firstDifferenceFrom.2.2.1 29 = .ok (.ireturn, 1) := by decide +kernel
theorem d_pv_firstDifferenceFrom_30 : decode m_pv_firstDifferenceFrom.2.2.1 30 = .ok (.iinc 3 1, 3) := by decide +kernel
theorem d_pv_firstDifferenceFrom_33 : decode m_pv_firstDifferenceFrom.2.2.1 33 = .ok (.goto (-19), 3) := by decide +kernel
theorem d_pv_firstDifferenceFrom_36 : decode m_pv_firstDifferenceFrom.2.2.1 36 = .ok (.aload_n 0, 1) := by decide +kernel
theorem d_pv_firstDifferenceFrom_37 : decode m_pv_firstDifferenceFrom.2.2.1 37 = .ok (.getfield 29, 3) := by decide +kernel
theorem d_pv_firstDifferenceFrom_40 : decode m_pv_firstDifferenceFrom.2.2.1 40 = .ok (.aload_n 1, 1) := by decide +kernel
theorem d_pv_firstDifferenceFrom_41 : decode m_pv_firstDifferenceFrom.2.2.1 41 = .ok (.getfield 29, 3) := by decide +kernel
theorem d_pv_firstDifferenceFrom_44 : decode m_pv_firstDifferenceFrom.2.2.1 44 = .ok (.if_icmp .ne 8, 3) := by decide +kernel
theorem d_pv_firstDifferenceFrom_47 : decode m_pv_firstDifferenceFrom.2.2.1 47 = .ok (.bipush (-9), 2) := by decide +kernel
theorem d_pv_firstDifferenceFrom_49 : decode m_pv_firstDifferenceFrom.2.2.1 49 = .ok (.goto 4, 3) := by decide +kernel
theorem d_pv_firstDifferenceFrom_52 : decode m_pv_firstDifferenceFrom.2.2.1 52 = .ok (.iload_n 2, 1) := by decide +kernel
theorem d_pv_firstDifferenceFrom_53 : decode m_pv_firstDifferenceFrom.2.2.1 53 = .ok (.ireturn, 1) := by decide +kernel
theorem d_pv_differsAt_0 : decode m_pv_differsAt.2.2.1 0 = .ok (.aload_n 0, 1) := by decide +kernel
theorem d_pv_differsAt_1 : decode m_pv_differsAt.2.2.1 1 = .ok (.getfield 9, 3) := by decide +kernel
theorem d_pv_differsAt_4 : decode m_pv_differsAt.2.2.1 4 = .ok (.iload_n 1, 1) := by decide +kernel
theorem d_pv_differsAt_5 : decode m_pv_differsAt.2.2.1 5 = .ok (.laload, 1) := by decide +kernel
theorem d_pv_differsAt_6 : decode m_pv_differsAt.2.2.1 6 = .ok (.aload_n 2, 1) := by decide +kernel
theorem d_pv_differsAt_7 : decode m_pv_differsAt.2.2.1 7 = .ok (.getfield 9, 3) := by decide +kernel
theorem d_pv_differsAt_10 : decode m_pv_differsAt.2.2.1 10 = .ok (.iload_n 1, 1) := by decide +kernel
theorem d_pv_differsAt_11 : decode m_pv_differsAt.2.2.1 11 = .ok (.laload, 1) := by decide +kernel
theorem d_pv_differsAt_12 : decode m_pv_differsAt.2.2.1 12 = .ok (.lcmp, 1) := by decide +kernel
theorem d_pv_differsAt_13 : decode m_pv_differsAt.2.2.1 13 = .ok (.ifCond .ne 33, 3) := by decide +kernel
theorem d_pv_differsAt_16 : decode m_pv_differsAt.2.2.1 16 = .ok (.aload_n 0, 1) := by decide +kernel
theorem d_pv_differsAt_17 : decode m_pv_differsAt.2.2.1 17 = .ok (.getfield 15, 3) := by decide +kernel
theorem d_pv_differsAt_20 : decode m_pv_differsAt.2.2.1 20 = .ok (.iload_n 1, 1) := by decide +kernel
theorem d_pv_differsAt_21 : decode m_pv_differsAt.2.2.1 21 = .ok (.iaload, 1) := by decide +kernel
theorem d_pv_differsAt_22 : decode m_pv_differsAt.2.2.1 22 = .ok (.aload_n 2, 1) := by decide +kernel
theorem d_pv_differsAt_23 : decode m_pv_differsAt.2.2.1 23 = .ok (.getfield 15, 3) := by decide +kernel
theorem d_pv_differsAt_26 : decode m_pv_differsAt.2.2.1 26 = .ok (.iload_n 1, 1) := by decide +kernel
theorem d_pv_differsAt_27 : decode m_pv_differsAt.2.2.1 27 = .ok (.iaload, 1) := by decide +kernel
theorem d_pv_differsAt_28 : decode m_pv_differsAt.2.2.1 28 = .ok (.if_icmp .ne 18, 3) := by decide +kernel
theorem d_pv_differsAt_31 : decode m_pv_differsAt.2.2.1 31 = .ok (.aload_n 0, 1) := by decide +kernel
theorem d_pv_differsAt_32 : decode m_pv_differsAt.2.2.1 32 = .ok (.getfield 19, 3) := by decide +kernel
theorem d_pv_differsAt_35 : decode m_pv_differsAt.2.2.1 35 = .ok (.iload_n 1, 1) := by decide +kernel
theorem d_pv_differsAt_36 : decode m_pv_differsAt.2.2.1 36 = .ok (.baload, 1) := by decide +kernel
theorem d_pv_differsAt_37 : decode m_pv_differsAt.2.2.1 37 = .ok (.aload_n 2, 1) := by decide +kernel
theorem d_pv_differsAt_38 : decode m_pv_differsAt.2.2.1 38 = .ok (.getfield 19, 3) := by decide +kernel
theorem d_pv_differsAt_41 : decode m_pv_differsAt.2.2.1 41 = .ok (.iload_n 1, 1) := by decide +kernel
theorem d_pv_differsAt_42 : decode m_pv_differsAt.2.2.1 42 = .ok (.baload, 1) := by decide +kernel
theorem d_pv_differsAt_43 : decode m_pv_differsAt.2.2.1 43 = .ok (.if_icmp .eq 7, 3) := by decide +kernel
theorem d_pv_differsAt_46 : decode m_pv_differsAt.2.2.1 46 = .ok (.iconst 1, 1) := by decide +kernel
theorem d_pv_differsAt_47 : decode m_pv_differsAt.2.2.1 47 = .ok (.goto 4, 3) := by decide +kernel
theorem d_pv_differsAt_50 : decode m_pv_differsAt.2.2.1 50 = .ok (.iconst 0, 1) := by decide +kernel
theorem d_pv_differsAt_51 : decode m_pv_differsAt.2.2.1 51 = .ok (.ireturn, 1) := by decide +kernel
theorem d_pv_isSameResultAs_0 : decode m_pv_isSameResultAs.2.2.1 0 = .ok (.aload_n 0, 1) := by decide +kernel
theorem d_pv_isSameResultAs_1 : decode m_pv_isSameResultAs.2.2.1 1 = .ok (.aload_n 1, 1) := by decide +kernel
theorem d_pv_isSameResultAs_2 : decode m_pv_isSameResultAs.2.2.1 2 = .ok (.invokevirtual 89, 3) := by decide +kernel
theorem d_pv_isSameResultAs_5 : decode m_pv_isSameResultAs.2.2.1 5 = .ok (.bipush (-9), 2) := by decide +kernel
theorem d_pv_isSameResultAs_7 : decode m_pv_isSameResultAs.2.2.1 7 = .ok (.if_icmp .eq 5, 3) := by decide +kernel
theorem d_pv_isSameResultAs_10 : decode m_pv_isSameResultAs.2.2.1 10 = .ok (.iconst 0, 1) := by decide +kernel
theorem d_pv_isSameResultAs_11 : decode m_pv_isSameResultAs.2.2.1 11 = .ok (.ireturn, 1) := by decide +kernel
theorem d_pv_isSameResultAs_12 : decode m_pv_isSameResultAs.2.2.1 12 = .ok (.iconst 0, 1) := by decide +kernel
theorem d_pv_isSameResultAs_13 : decode m_pv_isSameResultAs.2.2.1 13 = .ok (.istore_n 2, 1) := by decide +kernel
theorem d_pv_isSameResultAs_14 : decode m_pv_isSameResultAs.2.2.1 14 = .ok (.iload_n 2, 1) := by decide +kernel
theorem d_pv_isSameResultAs_15 : decode m_pv_isSameResultAs.2.2.1 15 = .ok (.aload_n 0, 1) := by decide +kernel
theorem d_pv_isSameResultAs_16 : decode m_pv_isSameResultAs.2.2.1 16 = .ok (.getfield 29, 3) := by decide +kernel
theorem d_pv_isSameResultAs_19 : decode m_pv_isSameResultAs.2.2.1 19 = .ok (.if_icmp .ge 26, 3) := by decide +kernel
theorem d_pv_isSameResultAs_22 : decode m_pv_isSameResultAs.2.2.1 22 = .ok (.aload_n 0, 1) := by decide +kernel
theorem d_pv_isSameResultAs_23 : decode m_pv_isSameResultAs.2.2.1 23 = .ok (.getfield 23, 3) := by decide +kernel
theorem d_pv_isSameResultAs_26 : decode m_pv_isSameResultAs.2.2.1 26 = .ok (.iload_n 2, 1) := by decide +kernel
theorem d_pv_isSameResultAs_27 : decode m_pv_isSameResultAs.2.2.1 27 = .ok (.iaload, 1) := by decide +kernel
theorem d_pv_isSameResultAs_28 : decode m_pv_isSameResultAs.2.2.1 28 = .ok (.aload_n 1, 1) := by decide +kernel
theorem d_pv_isSameResultAs_29 : decode m_pv_isSameResultAs.2.2.1 29 = .ok (.getfield 23, 3) := by decide +kernel
theorem d_pv_isSameResultAs_32 : decode m_pv_isSameResultAs.2.2.1 32 = .ok (.iload_n 2, 1) := by decide +kernel
theorem d_pv_isSameResultAs_33 : decode m_pv_isSameResultAs.2.2.1 33 = .ok (.iaload, 1) := by decide +kernel
theorem d_pv_isSameResultAs_34 : decode m_pv_isSameResultAs.2.2.1 34 = .ok (.if_icmp .eq 5, 3) := by decide +kernel
theorem d_pv_isSameResultAs_37 : decode m_pv_isSameResultAs.2.2.1 37 = .ok (.iconst 0, 1) := by decide +kernel
theorem d_pv_isSameResultAs_38 : decode m_pv_isSameResultAs.2.2.1 38 = .ok (.ireturn, 1) := by decide +kernel
theorem d_pv_isSameResultAs_39 : decode m_pv_isSameResultAs.2.2.1 39 = .ok (.iinc 2 1, 3) := by decide +kernel
theorem d_pv_isSameResultAs_42 : decode m_pv_isSameResultAs.2.2.1 42 = .ok (.goto (-28), 3) := by decide +kernel
theorem d_pv_isSameResultAs_45 : decode m_pv_isSameResultAs.2.2.1 45 = .ok (.iconst 1, 1) := by decide +kernel
theorem d_pv_isSameResultAs_46 : decode m_pv_isSameResultAs.2.2.1 46 = .ok (.ireturn, 1) := by decide +kernel
