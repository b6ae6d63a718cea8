/-! decode rows -/
theorem d_am_init_0 : decode m_am_init.2.2.1 0 = .ok (.aload_n 0, 1) := by decide +kernel
theorem d_am_init_1 : decode m_am_init.2.2.1 1 = .ok (.invokespecial 3, 3) := by decide +kernel
theorem d_am_init_4 : decode m_am_init.2.2.1 4 = .ok (.aload_n 0, 1) := by decide +kernel
theorem d_am_init_5 : decode m_am_init.2.2.1 5 = .ok (.bipush 8, 2) := by decide +kernel
theorem d_am_init_7 : decode m_am_init.2.2.1 7 = .ok (.newarray .int, 2) := by decide +kernel
theorem d_am_init_9 : decode m_am_init.2.2.1 9 = .ok (.putfield 9, 3) := by decide +kernel
theorem d_am_init_12 : decode m_am_init.2.2.1 12 = .ok (.aload_n 0, 1) := by decide +kernel
theorem d_am_init_13 : decode m_am_init.2.2.1 13 = .ok (.bipush 8, 2) := by decide +kernel
theorem d_am_init_15 : decode m_am_init.2.2.1 15 = .ok (.newarray .int, 2) := by decide +kernel
theorem d_am_init_17 : decode m_am_init.2.2.1 17 = .ok (.putfield 15, 3) := by decide +kernel
theorem d_am_init_20 : decode m_am_init.2.2.1 20 = .ok (.aload_n 0, 1) := by decide +kernel
theorem d_am_init_21 : decode m_am_init.2.2.1 21 = .ok (.bipush 120, 2) := by decide +kernel
theorem d_am_init_23 : decode m_am_init.2.2.1 23 = .ok (.newarray .int, 2) := by decide +kernel
theorem d_am_init_25 : decode m_am_init.2.2.1 25 = .ok (.putfield 18, 3) := by decide +kernel
theorem d_am_init_28 : decode m_am_init.2.2.1 28 = .ok (.aload_n 0, 1) := by decide +kernel
theorem d_am_init_29 : decode m_am_init.2.2.1 29 = .ok (.bipush 120, 2) := by decide +kernel
theorem d_am_init_31 : decode m_am_init.2.2.1 31 = .ok (.newarray .long, 2) := by decide +kernel
theorem d_am_init_33 : decode m_am_init.2.2.1 33 = .ok (.putfield 21, 3) := by decide +kernel
theorem d_am_init_36 : decode m_am_init.2.2.1 36 = .ok (.aload_n 0, 1) := by decide +kernel
theorem d_am_init_37 : decode m_am_init.2.2.1 37 = .ok (.bipush 120, 2) := by decide +kernel
theorem d_am_init_39 : decode m_am_init.2.2.1 39 = .ok (.newarray .long, 2) := by decide +kernel
theorem d_am_init_41 : decode m_am_init.2.2.1 41 = .ok (.putfield 25, 3) := by decide +kernel
theorem d_am_init_44 : decode m_am_init.2.2.1 44 = .ok (.aload_n 0, 1) := by decide +kernel
theorem d_am_init_45 : decode m_am_init.2.2.1 45 = .ok (.bipush 120, 2) := by decide +kernel
theorem d_am_init_47 : decode m_am_init.2.2.1 47 = .ok (.newarray .int, 2) := by decide +kernel
theorem d_am_init_49 : decode m_am_init.2.2.1 49 = .ok (.putfield 28, 3) := by decide +kernel
theorem d_am_init_52 : decode m_am_init.2.2.1 52 = .ok (.return_, 1) := by decide +kernel
theorem d_am_copyFrom_0 : decode m_am_copyFrom.2.2.1 0 = .ok (.aload_n 0, 1) := by decide +kernel
theorem d_am_copyFrom_1 : decode m_am_copyFrom.2.2.1 1 = .ok (.aload_n 1, 1) := by decide +kernel
theorem d_am_copyFrom_2 : decode m_am_copyFrom.2.2.1 2 = .ok (.getfield 31, 3) := by decide +kernel
theorem d_am_copyFrom_5 : decode m_am_copyFrom.2.2.1 5 = .ok (.putfield 31, 3) := by decide +kernel
theorem d_am_copyFrom_8 : decode m_am_copyFrom.2.2.1 8 = .ok (.aload_n 1, 1) := by decide +kernel
theorem d_am_copyFrom_9 : decode m_am_copyFrom.2.2.1 9 = .ok (.getfield 9, 3) := by decide +kernel
theorem d_am_copyFrom_12 : decode m_am_copyFrom.2.2.1 12 = .ok (.iconst 0, 1) := by decide +kernel
theorem d_am_copyFrom_13 : decode m_am_copyFrom.2.2.1 13 = .ok (.aload_n 0, 1) := by decide +kernel
theorem d_am_copyFrom_14 : decode m_am_copyFrom.2.2.1 14 = .ok (.getfield 9, 3) := by decide +kernel
theorem d_am_copyFrom_17 : decode m_am_copyFrom.2.2.1 17 = .ok (.iconst 0, 1) := by decide +kernel
theorem d_am_copyFrom_18 : decode m_am_copyFrom.2.2.1 18 = .ok (.bipush 8, 2) := by decide +kernel
theorem d_am_copyFrom_20 : decode m_am_copyFrom.2.2.1 20 = .ok (.invokestatic 35, 3) := by decide +kernel
theorem d_am_copyFrom_23 : decode m_am_copyFrom.2.2.1 23 = .ok (.aload_n 1, 1) := by decide +kernel
theorem d_am_copyFrom_24 : decode m_am_copyFrom.2.2.1 24 = .ok (.getfield 15, 3) := by decide +kernel
theorem d_am_copyFrom_27 : decode m_am_copyFrom.2.2.1 27 = .ok (.iconst 0, 1) := by decide +kernel
theorem d_am_copyFrom_28 : decode m_am_copyFrom.2.2.1 28 = .ok (.aload_n 0, 1) := by decide +kernel
theorem d_am_copyFrom_29 : decode m_am_copyFrom.2.2.1 29 = .ok (.getfield 15, 3) := by decide +kernel
theorem d_am_copyFrom_32 : decode m_am_copyFrom.2.2.1 32 = .ok (.iconst 0, 1) := by decide +kernel
theorem d_am_copyFrom_33 : decode m_am_copyFrom.2.2.1 33 = .ok (.bipush 8, 2) := by decide +kernel
theorem d_am_copyFrom_35 : decode m_am_copyFrom.2.2.1 35 = .ok (.invokestatic 35, 3) := by decide +kernel
theorem d_am_copyFrom_38 : decode m_am_copyFrom.2.2.1 38 = .ok (.aload_n 1, 1) := by decide +kernel
theorem d_am_copyFrom_39 : decode m_am_copyFrom.2.2.1 39 = .ok (.getfield 18, 3) := by decide +kernel
theorem d_am_copyFrom_42 : decode m_am_copyFrom.2.2.1 42 = .ok (.iconst 0, 1) := by decide +kernel
theorem d_am_copyFrom_43 : decode m_am_copyFrom.2.2.1 43 = .ok (.aload_n 0, 1) := by decide +kernel
theorem d_am_copyFrom_44 : decode m_am_copyFrom.2.2.1 44 = .ok (.getfield 18, 3) := by decide +kernel
theorem d_am_copyFrom_47 : decode m_am_copyFrom.2.2.1 47 = .ok (.iconst 0, 1) := by decide +kernel
theorem d_am_copyFrom_48 : decode m_am_copyFrom.2.2.1 48 = .ok (.bipush 120, 2) := by decide +kernel
theorem d_am_copyFrom_50 : decode m_am_copyFrom.2.2.1 50 = .ok (.invokestatic 35, 3) := by decide +kernel
theorem d_am_copyFrom_53 : decode m_am_copyFrom.2.2.1 53 = .ok (.aload_n 1, 1) := by decide +kernel
theorem d_am_copyFrom_54 : decode m_am_copyFrom.2.2.1 54 = .ok (.getfield 21, 3) := by decide +kernel
theorem d_am_copyFrom_57 : decode m_am_copyFrom.2.2.1 57 = .ok (.iconst 0, 1) := by decide +kernel
theorem d_am_copyFrom_58 : decode m_am_copyFrom.2.2.1 58 = .ok (.aload_n 0, 1) := by decide +kernel
theorem d_am_copyFrom_59 : decode m_am_copyFrom.2.2.1 59 = .ok (.getfield 21, 3) := by decide +kernel
theorem d_am_copyFrom_62 : decode m_am_copyFrom.2.2.1 62 = .ok (.iconst 0, 1) := by decide +kernel
theorem d_am_copyFrom_63 : decode m_am_copyFrom.2.2.1 63 = .ok (.bipush 120, 2) := by decide +kernel
theorem d_am_copyFrom_65 : decode m_am_copyFrom.2.2.1 65 = .ok (.invokestatic 35, 3) := by decide +kernel
theorem d_am_copyFrom_68 : decode m_am_copyFrom.2.2.1 68 = .ok (.aload_n 1, 1) := by decide +kernel
theorem d_am_copyFrom_69 : decode m_am_copyFrom.2.2.1 69 = .ok (.getfield 25, 3) := by decide +kernel
theorem d_am_copyFrom_72 : decode m_am_copyFrom.2.2.1 72 = .ok (.iconst 0, 1) := by decide +kernel
theorem d_am_copyFrom_73 : decode m_am_copyFrom.2.2.1 73 = .ok (.aload_n 0, 1) := by decide +kernel
theorem d_am_copyFrom_74 : decode m_am_copyFrom.2.2.1 74 = .ok (.getfield 25, 3) := by decide +kernel
theorem d_am_copyFrom_77 : decode m_am_copyFrom.2.2.1 77 = .ok (.iconst 0, 1) := by decide +kernel
theorem d_am_copyFrom_78 : decode m_am_copyFrom.2.2.1 78 = .ok (.bipush 120, 2) := by decide +kernel
theorem d_am_copyFrom_80 : decode m_am_copyFrom.2.2.1 80 = .ok (.invokestatic 35, 3) := by decide +kernel
theorem d_am_copyFrom_83 : decode m_am_copyFrom.2.2.1 83 = .ok (.aload_n 1, 1) := by decide +kernel
theorem d_am_copyFrom_84 : decode m_am_copyFrom.2.2.1 84 = .ok (.getfield 28, 3) := by decide +kernel
theorem d_am_copyFrom_87 : decode m_am_copyFrom.2.2.1 87 = .ok (.iconst 0, 1) := by decide +kernel
theorem d_am_copyFrom_88 : decode m_am_copyFrom.2.2.1 88 = .ok (.aload_n 0, 1) := by decide +kernel
theorem d_am_copyFrom_89 : decode m_am_copyFrom.2.2.1 89 = .ok (.getfield 28, 3) := by decide +kernel
theorem d_am_copyFrom_92 : decode m_am_copyFrom.2.2.1 92 = .ok (.iconst 0, 1) := by decide +kernel
theorem d_am_copyFrom_93 : decode m_am_copyFrom.2.2.1 93 = .ok (.bipush 120, 2) := by decide +kernel
theorem d_am_copyFrom_95 : decode m_am_copyFrom.2.2.1 95 = .ok (.invokestatic 35, 3) := by decide +kernel
theorem d_am_copyFrom_98 : decode m_am_copyFrom.2.2.1 98 = .ok (.return_, 1) := by decide +kernel
theorem d_am_has_0 : decode m_am_has.2.2.1 0 = .ok (.iload_n 1, 1) := by decide +kernel
theorem d_am_has_1 : decode m_am_has.2.2.1 1 = .ok (.ifCond .lt 15, 3) := by decide +kernel
theorem d_am_has_4 : decode m_am_has.2.2.1 4 = .ok (.iload_n 1, 1) := by decide +kernel
theorem d_am_has_5 : decode m_am_has.2.2.1 5 = .ok (.aload_n 0, 1) := by decide +kernel
theorem d_am_has_6 : decode m_am_has.2.2.1 6 = .ok (.getfield 31, 3) := by decide +kernel
theorem d_am_has_9 : decode m_am_has.2.2.1 9 = .ok (.if_icmp .ge 7, 3) := by decide +kernel
theorem d_am_has_12 : decode m_am_has.2.2.1 12 = .ok (.iconst 1, 1) := by decide +kernel
theorem d_am_has_13 : decode m_am_has.2.2.1 13 = .ok (.goto 4, 3) := by decide +kernel
theorem d_am_has_16 : decode m_am_has.2.2.1 16 = .ok (.iconst 0, 1) := by decide +kernel
theorem d_am_has_17 : decode m_am_has.2.2.1 17 = .ok (.ireturn, 1) := by decide +kernel
theorem d_am_nextAfter_0 : decode m_am_nextAfter.2.2.1 0 = .ok (.iconst (-1), 1) := by decide +kernel
theorem d_am_nextAfter_1 : decode m_am_nextAfter.2.2.1 1 = .ok (.istore_n 2, 1) := by decide +kernel
theorem d_am_nextAfter_2 : decode m_am_nextAfter.2.2.1 2 = .ok (.iconst 0, 1) := by decide +kernel
theorem d_am_nextAfter_3 : decode m_am_nextAfter.2.2.1 3 = .ok (.istore_n 3, 1) := by decide +kernel
theorem d_am_nextAfter_4 : decode m_am_nextAfter.2.2.1 4 = .ok (.iload_n 3, 1) := by decide +kernel
theorem d_am_nextAfter_5 : decode m_am_nextAfter.2.2.1 5 = .ok (.aload_n 0, 1) := by decide +kernel
theorem d_am_nextAfter_6 : decode m_am_nextAfter.2.2.1 6 = .ok (.getfield 31, 3) := by decide +kernel
theorem d_am_nextAfter_9 : decode m_am_nextAfter.2.2.1 9 = .ok (.if_icmp .ge 51, 3) := by decide +kernel
theorem d_am_nextAfter_12 : decode m_am_nextAfter.2.2.1 12 = .ok (.iload_n 1, 1) := by decide +kernel
theorem d_am_nextAfter_13 : decode m_am_nextAfter.2.2.1 13 = .ok (.iconst (-1), 1) := by decide +kernel
theorem d_am_nextAfter_14 : decode m_am_nextAfter.2.2.1 14 = .ok (.if_icmp .eq 12, 3) := by decide +kernel
theorem d_am_nextAfter_17 : decode m_am_nextAfter.2.2.1 17 = .ok (.aload_n 0, 1) := by decide +kernel
theorem d_am_nextAfter_18 : decode m_am_nextAfter.2.2.1 18 = .ok (.iload_n 1, 1) := by decide +kernel
theorem d_am_nextAfter_19 : decode m_am_nextAfter.2.2.1 19 = .ok (.iload_n 3, 1) := by decide +kernel
theorem d_am_nextAfter_20 : decode m_am_nextAfter.2.2.1 20 = .ok (.invokevirtual 41, 3) := by decide +kernel
theorem d_am_nextAfter_23 : decode m_am_nextAfter.2.2.1 23 = .ok (.ifCond .eq 7, 3) := by decide +kernel
theorem d_am_nextAfter_26 : decode m_am_nextAfter.2.2.1 26 = .ok (.iconst 1, 1) := by decide +kernel
theorem d_am_nextAfter_27 : decode m_am_nextAfter.2.2.1 27 = .ok (.goto 4, 3) := by decide +kernel
theorem d_am_nextAfter_30 : decode m_am_nextAfter.2.2.1 30 = .ok (.iconst 0, 1) := by decide +kernel
theorem d_am_nextAfter_31 : decode m_am_nextAfter.2.2.1 31 = .ok (.istore 4, 2) := by decide +kernel
theorem d_am_nextAfter_33 : decode m_am_nextAfter.2.2.1 33 = .ok (.iload 4, 2) := by decide +kernel
theorem d_am_nextAfter_35 : decode m_am_nextAfter.2.2.1 35 = .ok (.ifCond .eq 19, 3) := by decide +kernel
theorem d_am_nextAfter_38 : decode m_am_nextAfter.2.2.1 38 = .ok (.iload_n 2, 1) := by decide +kernel
theorem d_am_nextAfter_39 : decode m_am_nextAfter.2.2.1 39 = .ok (.iconst (-1), 1) := by decide +kernel
theorem d_am_nextAfter_40 : decode m_am_nextAfter.2.2.1 40 = .ok (.if_icmp .eq 12, 3) := by decide +kernel
theorem d_am_nextAfter_43 : decode m_am_nextAfter.2.2.1 43 = .ok (.aload_n 0, 1) := by decide +kernel
theorem d_am_nextAfter_44 : decode m_am_nextAfter.2.2.1 44 = .ok (.iload_n 3, 1) := by decide +kernel
theorem d_am_nextAfter_45 : decode m_am_nextAfter.2.2.1 45 = .ok (.iload_n 2, 1) := by decide +kernel
theorem d_am_nextAfter_46 : decode m_am_nextAfter.2.2.1 46 = .ok (.invokevirtual 41, 3) := by decide +kernel
theorem d_am_nextAfter_49 : decode m_am_nextAfter.2.2.1 49 = .ok (.ifCond .eq 5, 3) := by decide +kernel
theorem d_am_nextAfter_52 : decode m_am_nextAfter.2.2.1 52 = .ok (.iload_n 3, 1) := by decide +kernel
theorem d_am_nextAfter_53 : decode m_am_nextAfter.2.2.1 53 = .ok (.istore_n 2, 1) := by decide +kernel
theorem d_am_nextAfter_54 : decode m_am_nextAfter.2.2.1 54 = .ok (.iinc 3 1, 3) := by decide +kernel
theorem d_am_nextAfter_57 : decode m_am_nextAfter.2.2.1 57 = .ok (.goto (-53), 3) := by decide +kernel
theorem d_am_nextAfter_60 : decode m_am_nextAfter.2.2.1 60 = .ok (.iload_n 2, 1) := by decide +kernel
theorem d_am_nextAfter_61 : decode m_am_nextAfter.2.2.1 61 = .ok (.ireturn, 1) := by decide +kernel
theorem d_am_isBefore_0 : decode m_am_isBefore.2.2.1 0 = .ok (.aload_n 0, 1) := by decide +kernel
theorem d_am_isBefore_1 : decode m_am_isBefore.2.2.1 1 = .ok (.getfield 9, 3) := by decide +kernel
theorem d_am_isBefore_4 : decode m_am_isBefore.2.2.1 4 = .ok (.iload_n 1, 1) := by decide +kernel
theorem d_am_isBefore_5 : decode m_am_isBefore.2.2.1 5 = .ok (.iaload, 1) := by decide +kernel
theorem d_am_isBefore_6 : decode m_am_isBefore.2.2.1 6 = .ok (.aload_n 0, 1) := by decide +kernel
theorem d_am_isBefore_7 : decode m_am_isBefore.2.2.1 7 = .ok (.getfield 9, 3) := by decide +kernel
theorem d_am_isBefore_10 : decode m_am_isBefore.2.2.1 10 = .ok (.iload_n 2, 1) := by decide +kernel
theorem d_am_isBefore_11 : decode m_am_isBefore.2.2.1 11 = .ok (.iaload, 1) := by decide +kernel
theorem d_am_isBefore_12 : decode m_am_isBefore.2.2.1 12 = .ok (.if_icmp .lt 23, 3) := by decide +kernel
theorem d_am_isBefore_15 : decode m_am_isBefore.2.2.1 15 = .ok (.aload_n 0, 1) := by decide +kernel
theorem d_am_isBefore_16 : decode m_am_isBefore.2.2.1 16 = .ok (.getfield 9, 3) := by decide +kernel
theorem d_am_isBefore_19 : decode m_am_isBefore.2.2.1 19 = .ok (.iload_n 1, 1) := by decide +kernel
theorem d_am_isBefore_20 : decode m_am_isBefore.2.2.1 20 = .ok (.iaload, 1) := by decide +kernel
theorem d_am_isBefore_21 : decode m_am_isBefore.2.2.1 21 = .ok (.aload_n 0, 1) := by decide +kernel
theorem d_am_isBefore_22 : decode m_am_isBefore.2.2.1 22 = .ok (.getfield 9, 3) := by decide +kernel
theorem d_am_isBefore_25 : decode m_am_isBefore.2.2.1 25 = .ok (.iload_n 2, 1) := by decide +kernel
theorem d_am_isBefore_26 : decode m_am_isBefore.2.2.1 26 = .ok (.iaload, 1) := by decide +kernel
theorem d_am_isBefore_27 : decode m_am_isBefore.2.2.1 27 = .ok (.if_icmp .ne 12, 3) := by decide +kernel
theorem d_am_isBefore_30 : decode m_am_isBefore.2.2.1 30 = .ok (.iload_n 1, 1) := by decide +kernel
theorem d_am_isBefore_31 : decode m_am_isBefore.2.2.1 31 = .ok (.iload_n 2, 1) := by decide +kernel
theorem d_am_isBefore_32 : decode m_am_isBefore.2.2.1 32 = .ok (.if_icmp .ge 7, 3) := by decide +kernel
theorem d_am_isBefore_35 : decode m_am_isBefore.2.2.1 35 = .ok (.iconst 1, 1) := by decide +kernel
theorem d_am_isBefore_36 : decode m_am_isBefore.2.2.1 36 = .ok (.goto 4, 3) := by decide +kernel
theorem d_am_isBefore_39 : decode m_am_isBefore.2.2.1 39 = .ok (.iconst 0, 1) := by decide +kernel
theorem d_am_isBefore_40 : decode m_am_isBefore.2.2.1 40 = .ok (.ireturn, 1) := by decide +kernel
theorem d_inp_init_0 : decode m_inp_init.2.2.1 0 = .ok (.aload_n 0, 1) := by decide +kernel
theorem d_inp_init_1 : decode m_inp_init.2.2.1 1 = .ok (.invokespecial 3, 3) := by decide +kernel
theorem d_inp_init_4 : decode m_inp_init.2.2.1 4 = .ok (.aload_n 0, 1) := by decide +kernel
theorem d_inp_init_5 : decode m_inp_init.2.2.1 5 = .ok (.bipush 120, 2) := by decide +kernel
theorem d_inp_init_7 : decode m_inp_init.2.2.1 7 = .ok (.newarray .int, 2) := by decide +kernel
theorem d_inp_init_9 : decode m_inp_init.2.2.1 9 = .ok (.putfield 9, 3) := by decide +kernel
theorem d_inp_init_12 : decode m_inp_init.2.2.1 12 = .ok (.return_, 1) := by decide +kernel
theorem d_inp_readInstructions_0 : decode m_inp_readInstructions.2.2.1 0 = .ok (.aload_n 0, 1) := by decide +kernel
theorem d_inp_readInstructions_1 : decode m_inp_readInstructions.2.2.1 1 = .ok (.iconst 0, 1) := by decide +kernel
theorem d_inp_readInstructions_2 : decode m_inp_readInstructions.2.2.1 2 = .ok (.putfield 15, 3) := by decide +kernel
theorem d_inp_readInstructions_5 : decode m_inp_readInstructions.2.2.1 5 = .ok (.iconst 0, 1) := by decide +kernel
theorem d_inp_readInstructions_6 : decode m_inp_readInstructions.2.2.1 6 = .ok (.istore_n 3, 1) := by decide +kernel
theorem d_inp_readInstructions_7 : decode m_inp_readInstructions.2.2.1 7 = .ok (.iload_n 3, 1) := by decide +kernel
theorem d_inp_readInstructions_8 : decode m_inp_readInstructions.2.2.1 8 = .ok (.bipush 15, 2) := by decide +kernel
theorem d_inp_readInstructions_10 : decode m_inp_readInstructions.2.2.1 10 = .ok (.if_icmp .ge 45, 3) := by decide +kernel
theorem d_inp_readInstructions_13 : decode m_inp_readInstructions.2.2.1 13 = .ok (.aload_n 0, 1) := by decide +kernel
theorem d_inp_readInstructions_14 : decode m_inp_readInstructions.2.2.1 14 = .ok (.aload_n 1, 1) := by decide +kernel
theorem d_inp_readInstructions_15 : decode m_inp_readInstructions.2.2.1 15 = .ok (.iload_n 2, 1) := by decide +kernel
theorem d_inp_readInstructions_16 : decode m_inp_readInstructions.2.2.1 16 = .ok (.iload_n 3, 1) := by decide +kernel
theorem d_inp_readInstructions_17 : decode m_inp_readInstructions.2.2.1 17 = .ok (.iadd, 1) := by decide +kernel
theorem d_inp_readInstructions_18 : decode m_inp_readInstructions.2.2.1 18 = .ok (.invokevirtual 19, 3) := by decide +kernel
theorem d_inp_readInstructions_21 : decode m_inp_readInstructions.2.2.1 21 = .ok (.ifCond .ne 5, 3) := by decide +kernel
theorem d_inp_readInstructions_24 : decode m_inp_readInstructions.2.2.1 24 = .ok (.iconst (-1), 1) := by decide +kernel
theorem d_inp_readInstructions_25 : decode m_inp_readInstructions.2.2.1 25 = .ok (.ireturn, 1) := by decide +kernel
theorem d_inp_readInstructions_26 : decode m_inp_readInstructions.2.2.1 26 = .ok (.aload_n 0, 1) := by decide +kernel
theorem d_inp_readInstructions_27 : decode m_inp_readInstructions.2.2.1 27 = .ok (.invokevirtual 23, 3) := by decide +kernel
theorem d_inp_readInstructions_30 : decode m_inp_readInstructions.2.2.1 30 = .ok (.iconst (-1), 1) := by decide +kernel
theorem d_inp_readInstructions_31 : decode m_inp_readInstructions.2.2.1 31 = .ok (.if_icmp .ne 7, 3) := by decide +kernel
theorem d_inp_readInstructions_34 : decode m_inp_readInstructions.2.2.1 34 = .ok (.iload_n 3, 1) := by decide +kernel
theorem d_inp_readInstructions_35 : decode m_inp_readInstructions.2.2.1 35 = .ok (.iconst 1, 1) := by decide +kernel
theorem d_inp_readInstructions_36 : decode m_inp_readInstructions.2.2.1 36 = .ok (.iadd, 1) := by decide +kernel
theorem d_inp_readInstructions_37 : decode m_inp_readInstructions.2.2.1 37 = .ok (.ireturn, 1) := by decide +kernel
theorem d_inp_readInstructions_38 : decode m_inp_readInstructions.2.2.1 38 = .ok (.aload_n 0, 1) := by decide +kernel
theorem d_inp_readInstructions_39 : decode m_inp_readInstructions.2.2.1 39 = .ok (.bipush 59, 2) := by decide +kernel
theorem d_inp_readInstructions_41 : decode m_inp_readInstructions.2.2.1 41 = .ok (.invokevirtual 27, 3) := by decide +kernel
theorem d_inp_readInstructions_44 : decode m_inp_readInstructions.2.2.1 44 = .ok (.ifCond .ne 5, 3) := by decide +kernel
theorem d_inp_readInstructions_47 : decode m_inp_readInstructions.2.2.1 47 = .ok (.iconst (-1), 1) := by decide +kernel
theorem d_inp_readInstructions_48 : decode m_inp_readInstructions.2.2.1 48 = .ok (.ireturn, 1) := by decide +kernel
theorem d_inp_readInstructions_49 : decode m_inp_readInstructions.2.2.1 49 = .ok (.iinc 3 1, 3) := by decide +kernel
theorem d_inp_readInstructions_52 : decode m_inp_readInstructions.2.2.1 52 = .ok (.goto (-45), 3) := by decide +kernel
theorem d_inp_readInstructions_55 : decode m_inp_readInstructions.2.2.1 55 = .ok (.iconst (-1), 1) := by decide +kernel
theorem d_inp_readInstructions_56 : decode m_inp_readInstructions.2.2.1 56 = .ok (.ireturn, 1) := by decide +kernel
theorem d_inp_readInstruction_0 : decode m_inp_readInstruction.2.2.1 0 = .ok (.aload_n 0, 1) := by decide +kernel
theorem d_inp_readInstruction_1 : decode m_inp_readInstruction.2.2.1 1 = .ok (.invokevirtual 31, 3) := by decide +kernel
theorem d_inp_readInstruction_4 : decode m_inp_readInstruction.2.2.1 4 = .ok (.istore_n 3, 1) := by decide +kernel
theorem d_inp_readInstruction_5 : decode m_inp_readInstruction.2.2.1 5 = .ok (.iload_n 3, 1) := by decide +kernel
theorem d_inp_readInstruction_6 : decode m_inp_readInstruction.2.2.1 6 = .ok (.iconst (-1), 1) := by decide +kernel
theorem d_inp_readInstruction_7 : decode m_inp_readInstruction.2.2.1 7 = .ok (.if_icmp .eq 12, 3) := by decide +kernel
theorem d_inp_readInstruction_10 : decode m_inp_readInstruction.2.2.1 10 = .ok (.aload_n 0, 1) := by decide +kernel
theorem d_inp_readInstruction_11 : decode m_inp_readInstruction.2.2.1 11 = .ok (.bipush 32, 2) := by decide +kernel
theorem d_inp_readInstruction_13 : decode m_inp_readInstruction.2.2.1 13 = .ok (.invokevirtual 27, 3) := by decide +kernel
theorem d_inp_readInstruction_16 : decode m_inp_readInstruction.2.2.1 16 = .ok (.ifCond .ne 5, 3) := by decide +kernel
theorem d_inp_readInstruction_19 : decode m_inp_readInstruction.2.2.1 19 = .ok (.iconst 0, 1) := by decide +kernel
theorem d_inp_readInstruction_20 : decode m_inp_readInstruction.2.2.1 20 = .ok (.ireturn, 1) := by decide +kernel
theorem d_inp_readInstruction_21 : decode m_inp_readInstruction.2.2.1 21 = .ok (.aload_n 0, 1) := by decide +kernel
theorem d_inp_readInstruction_22 : decode m_inp_readInstruction.2.2.1 22 = .ok (.invokevirtual 34, 3) := by decide +kernel
theorem d_inp_readInstruction_25 : decode m_inp_readInstruction.2.2.1 25 = .ok (.lstore 4, 2) := by decide +kernel
theorem d_inp_readInstruction_27 : decode m_inp_readInstruction.2.2.1 27 = .ok (.lload 4, 2) := by decide +kernel
theorem d_inp_readInstruction_29 : decode m_inp_readInstruction.2.2.1 29 = .ok (.lconst 0, 1) := by decide +kernel
theorem d_inp_readInstruction_30 : decode m_inp_readInstruction.2.2.1 30 = .ok (.lcmp, 1) := by decide +kernel
theorem d_inp_readInstruction_31 : decode m_inp_readInstruction.2.2.1 31 = .ok (.ifCond .ne 5, 3) := by decide +kernel
theorem d_inp_readInstruction_34 : decode m_inp_readInstruction.2.2.1 34 = .ok (.iconst 0, 1) := by decide +kernel
theorem d_inp_readInstruction_35 : decode m_inp_readInstruction.2.2.1 35 = .ok (.ireturn, 1) := by decide +kernel
theorem d_inp_readInstruction_36 : decode m_inp_readInstruction.2.2.1 36 = .ok (.aload_n 1, 1) := by decide +kernel
theorem d_inp_readInstruction_37 : decode m_inp_readInstruction.2.2.1 37 = .ok (.getfield 40, 3) := by decide +kernel
theorem d_inp_readInstruction_40 : decode m_inp_readInstruction.2.2.1 40 = .ok (.iload_n 2, 1) := by decide +kernel
theorem d_inp_readInstruction_41 : decode m_inp_readInstruction.2.2.1 41 = .ok (.iload_n 3, 1) := by decide +kernel
theorem d_inp_readInstruction_42 : decode m_inp_readInstruction.2.2.1 42 = .ok (.iastore, 1) := by decide +kernel
theorem d_inp_readInstruction_43 : decode m_inp_readInstruction.2.2.1 43 = .ok (.aload_n 1, 1) := by decide +kernel
theorem d_inp_readInstruction_44 : decode m_inp_readInstruction.2.2.1 44 = .ok (.getfield 45, 3) := by decide +kernel
theorem d_inp_readInstruction_47 : decode m_inp_readInstruction.2.2.1 47 = .ok (.iload_n 2, 1) := by decide +kernel
theorem d_inp_readInstruction_48 : decode m_inp_readInstruction.2.2.1 48 = .ok (.lload 4, 2) := by decide +kernel
theorem d_inp_readInstruction_50 : decode m_inp_readInstruction.2.2.1 50 = .ok (.lastore, 1) := by decide +kernel
theorem d_inp_readInstruction_51 : decode m_inp_readInstruction.2.2.1 51 = .ok (.aload_n 1, 1) := by decide +kernel
theorem d_inp_readInstruction_52 : decode m_inp_readInstruction.2.2.1 52 = .ok (.getfield 49, 3) := by decide +kernel
theorem d_inp_readInstruction_55 : decode m_inp_readInstruction.2.2.1 55 = .ok (.iload_n 2, 1) := by decide +kernel
theorem d_inp_readInstruction_56 : decode m_inp_readInstruction.2.2.1 56 = .ok (.lconst 0, 1) := by decide +kernel
theorem d_inp_readInstruction_57 : decode m_inp_readInstruction.2.2.1 57 = .ok (.lastore, 1) := by decide +kernel
theorem d_inp_readInstruction_58 : decode m_inp_readInstruction.2.2.1 58 = .ok (.aload_n 1, 1) := by decide +kernel
theorem d_inp_readInstruction_59 : decode m_inp_readInstruction.2.2.1 59 = .ok (.getfield 52, 3) := by decide +kernel
theorem d_inp_readInstruction_62 : decode m_inp_readInstruction.2.2.1 62 = .ok (.iload_n 2, 1) := by decide +kernel
theorem d_inp_readInstruction_63 : decode m_inp_readInstruction.2.2.1 63 = .ok (.iconst 0, 1) := by decide +kernel
theorem d_inp_readInstruction_64 : decode m_inp_readInstruction.2.2.1 64 = .ok (.iastore, 1) := by decide +kernel
theorem d_inp_readInstruction_65 : decode m_inp_readInstruction.2.2.1 65 = .ok (.iload_n 3, 1) := by decide +kernel
theorem d_inp_readInstruction_66 : decode m_inp_readInstruction.2.2.1 66 = .ok (.iconst 3, 1) := by decide +kernel
theorem d_inp_readInstruction_67 : decode m_inp_readInstruction.2.2.1 67 = .ok (.if_icmp .eq 8, 3) := by decide +kernel
theorem d_inp_readInstruction_70 : decode m_inp_readInstruction.2.2.1 70 = .ok (.iload_n 3, 1) := by decide +kernel
theorem d_inp_readInstruction_71 : decode m_inp_readInstruction.2.2.1 71 = .ok (.iconst 5, 1) := by decide +kernel
theorem d_inp_readInstruction_72 : decode m_inp_readInstruction.2.2.1 72 = .ok (.if_icmp .ne 5, 3) := by decide +kernel
theorem d_inp_readInstruction_75 : decode m_inp_readInstruction.2.2.1 75 = .ok (.iconst 1, 1) := by decide +kernel
theorem d_inp_readInstruction_76 : decode m_inp_readInstruction.2.2.1 76 = .ok (.ireturn, 1) := by decide +kernel
theorem d_inp_readInstruction_77 : decode m_inp_readInstruction.2.2.1 77 = .ok (.aload_n 0, 1) := by decide +kernel
theorem d_inp_readInstruction_78 : decode m_inp_readInstruction.2.2.1 78 = .ok (.bipush 32, 2) := by decide +kernel
theorem d_inp_readInstruction_80 : decode m_inp_readInstruction.2.2.1 80 = .ok (.invokevirtual 27, 3) := by decide +kernel
theorem d_inp_readInstruction_83 : decode m_inp_readInstruction.2.2.1 83 = .ok (.ifCond .ne 5, 3) := by decide +kernel
theorem d_inp_readInstruction_86 : decode m_inp_readInstruction.2.2.1 86 = .ok (.iconst 0, 1) := by decide +kernel
theorem d_inp_readInstruction_87 : decode m_inp_readInstruction.2.2.1 87 = .ok (.ireturn, 1) := by decide +kernel
theorem d_inp_readInstruction_88 : decode m_inp_readInstruction.2.2.1 88 = .ok (.iload_n 3, 1) := by decide +kernel
theorem d_inp_readInstruction_89 : decode m_inp_readInstruction.2.2.1 89 = .ok (.iconst 4, 1) := by decide +kernel
theorem d_inp_readInstruction_90 : decode m_inp_readInstruction.2.2.1 90 = .ok (.if_icmp .ne 30, 3) := by decide +kernel
theorem d_inp_readInstruction_93 : decode m_inp_readInstruction.2.2.1 93 = .ok (.aload_n 1, 1) := by decide +kernel
theorem d_inp_readInstruction_94 : decode m_inp_readInstruction.2.2.1 94 = .ok (.getfield 49, 3) := by decide +kernel
theorem d_inp_readInstruction_97 : decode m_inp_readInstruction.2.2.1 97 = .ok (.iload_n 2, 1) := by decide +kernel
theorem d_inp_readInstruction_98 : decode m_inp_readInstruction.2.2.1 98 = .ok (.aload_n 0, 1) := by decide +kernel
theorem d_inp_readInstruction_99 : decode m_inp_readInstruction.2.2.1 99 = .ok (.invokevirtual 34, 3) := by decide +kernel
theorem d_inp_readInstruction_102 : decode m_inp_readInstruction.2.2.1 102 = .ok (.lastore, 1) := by decide +kernel
theorem d_inp_readInstruction_103 : decode m_inp_readInstruction.2.2.1 103 = .ok (.aload_n 1, 1) := by decide +kernel
theorem d_inp_readInstruction_104 : decode m_inp_readInstruction.2.2.1 104 = .ok (.getfield 49, 3) := by decide +kernel
theorem d_inp_readInstruction_107 : decode m_inp_readInstruction.2.2.1 107 = .ok (.iload_n 2, 1) := by decide +kernel
theorem d_inp_readInstruction_108 : decode m_inp_readInstruction.2.2.1 108 = .ok (.laload, 1) := by decide +kernel
theorem d_inp_readInstruction_109 : decode m_inp_readInstruction.2.2.1 109 = .ok (.lconst 0, 1) := by decide +kernel
theorem d_inp_readInstruction_110 : decode m_inp_readInstruction.2.2.1 110 = .ok (.lcmp, 1) := by decide +kernel
theorem d_inp_readInstruction_111 : decode m_inp_readInstruction.2.2.1 111 = .ok (.ifCond .eq 7, 3) := by decide +kernel
theorem d_inp_readInstruction_114 : decode m_inp_readInstruction.2.2.1 114 = .ok (.iconst 1, 1) := by decide +kernel
theorem d_inp_readInstruction_115 : decode m_inp_readInstruction.2.2.1 115 = .ok (.goto 4, 3) := by decide +kernel
theorem d_inp_readInstruction_118 : decode m_inp_readInstruction.2.2.1 118 = .ok (.iconst 0, 1) := by decide +kernel
theorem d_inp_readInstruction_119 : decode m_inp_readInstruction.2.2.1 119 = .ok (.ireturn, 1) := by decide +kernel
theorem d_inp_readInstruction_120 : decode m_inp_readInstruction.2.2.1 120 = .ok (.aload_n 1, 1) := by decide +kernel
theorem d_inp_readInstruction_121 : decode m_inp_readInstruction.2.2.1 121 = .ok (.getfield 52, 3) := by decide +kernel
theorem d_inp_readInstruction_124 : decode m_inp_readInstruction.2.2.1 124 = .ok (.iload_n 2, 1) := by decide +kernel
theorem d_inp_readInstruction_125 : decode m_inp_readInstruction.2.2.1 125 = .ok (.aload_n 0, 1) := by decide +kernel
theorem d_inp_readInstruction_126 : decode m_inp_readInstruction.2.2.1 126 = .ok (.invokevirtual 55, 3) := by decide +kernel
theorem d_inp_readInstruction_129 : decode m_inp_readInstruction.2.2.1 129 = .ok (.iastore, 1) := by decide +kernel
theorem d_inp_readInstruction_130 : decode m_inp_readInstruction.2.2.1 130 = .ok (.aload_n 1, 1) := by decide +kernel
theorem d_inp_readInstruction_131 : decode m_inp_readInstruction.2.2.1 131 = .ok (.getfield 52, 3) := by decide +kernel
theorem d_inp_readInstruction_134 : decode m_inp_readInstruction.2.2.1 134 = .ok (.iload_n 2, 1) := by decide +kernel
theorem d_inp_readInstruction_135 : decode m_inp_readInstruction.2.2.1 135 = .ok (.iaload, 1) := by decide +kernel
theorem d_inp_readInstruction_136 : decode m_inp_readInstruction.2.2.1 136 = .ok (.iconst (-1), 1) := by decide +kernel
theorem d_inp_readInstruction_137 : decode m_inp_readInstruction.2.2.1 137 = .ok (.if_icmp .eq 7, 3) := by decide +kernel
theorem d_inp_readInstruction_140 : decode m_inp_readInstruction.2.2.1 140 = .ok (.iconst 1, 1) := by decide +kernel
theorem d_inp_readInstruction_141 : decode m_inp_readInstruction.2.2.1 141 = .ok (.goto 4, 3) := by decide +kernel
theorem d_inp_readInstruction_144 : decode m_inp_readInstruction.2.2.1 144 = .ok (.iconst 0, 1) := by decide +kernel
theorem d_inp_readInstruction_145 : decode m_inp_readInstruction.2.2.1 145 = .ok (.ireturn, 1) := by decide +kernel
theorem d_inp_readOnlyPath_0 : decode m_inp_readOnlyPath.2.2.1 0 = .ok (.aload_n 0, 1) := by decide +kernel
theorem d_inp_readOnlyPath_1 : decode m_inp_readOnlyPath.2.2.1 1 = .ok (.iconst 0, 1) := by decide +kernel
theorem d_inp_readOnlyPath_2 : decode m_inp_readOnlyPath.2.2.1 2 = .ok (.putfield 15, 3) := by decide +kernel
theorem d_inp_readOnlyPath_5 : decode m_inp_readOnlyPath.2.2.1 5 = .ok (.aload_n 0, 1) := by decide +kernel
theorem d_inp_readOnlyPath_6 : decode m_inp_readOnlyPath.2.2.1 6 = .ok (.invokevirtual 34, 3) := by decide +kernel
theorem d_inp_readOnlyPath_9 : decode m_inp_readOnlyPath.2.2.1 9 = .ok (.lstore_n 1, 1) := by decide +kernel
theorem d_inp_readOnlyPath_10 : decode m_inp_readOnlyPath.2.2.1 10 = .ok (.aload_n 0, 1) := by decide +kernel
theorem d_inp_readOnlyPath_11 : decode m_inp_readOnlyPath.2.2.1 11 = .ok (.invokevirtual 23, 3) := by decide +kernel
theorem d_inp_readOnlyPath_14 : decode m_inp_readOnlyPath.2.2.1 14 = .ok (.iconst (-1), 1) := by decide +kernel
theorem d_inp_readOnlyPath_15 : decode m_inp_readOnlyPath.2.2.1 15 = .ok (.if_icmp .ne 7, 3) := by decide +kernel
theorem d_inp_readOnlyPath_18 : decode m_inp_readOnlyPath.2.2.1 18 = .ok (.lload_n 1, 1) := by decide +kernel
theorem d_inp_readOnlyPath_19 : decode m_inp_readOnlyPath.2.2.1 19 = .ok (.goto 4, 3) := by decide +kernel
theorem d_inp_readOnlyPath_22 : decode m_inp_readOnlyPath.2.2.1 22 = .ok (.lconst 0, 1) := by decide +kernel
theorem d_inp_readOnlyPath_23 : decode m_inp_readOnlyPath.2.2.1 23 = .ok (.lreturn, 1) := by decide +kernel
theorem d_inp_peek_0 : decode m_inp_peek.2.2.1 0 = .ok (.aload_n 0, 1) := by decide +kernel
theorem d_inp_peek_1 : decode m_inp_peek.2.2.1 1 = .ok (.getfield 15, 3) := by decide +kernel
theorem d_inp_peek_4 : decode m_inp_peek.2.2.1 4 = .ok (.ifCond .lt 26, 3) := by decide +kernel
theorem d_inp_peek_7 : decode m_inp_peek.2.2.1 7 = .ok (.aload_n 0, 1) := by decide +kernel
theorem d_inp_peek_8 : decode m_inp_peek.2.2.1 8 = .ok (.getfield 15, 3) := by decide +kernel
theorem d_inp_peek_11 : decode m_inp_peek.2.2.1 11 = .ok (.aload_n 0, 1) := by decide +kernel
theorem d_inp_peek_12 : decode m_inp_peek.2.2.1 12 = .ok (.getfield 58, 3) := by decide +kernel
theorem d_inp_peek_15 : decode m_inp_peek.2.2.1 15 = .ok (.if_icmp .ge 15, 3) := by decide +kernel
theorem d_inp_peek_18 : decode m_inp_peek.2.2.1 18 = .ok (.aload_n 0, 1) := by decide +kernel
theorem d_inp_peek_19 : decode m_inp_peek.2.2.1 19 = .ok (.getfield 9, 3) := by decide +kernel
theorem d_inp_peek_22 : decode m_inp_peek.2.2.1 22 = .ok (.aload_n 0, 1) := by decide +kernel
theorem d_inp_peek_23 : decode m_inp_peek.2.2.1 23 = .ok (.getfield 15, 3) := by decide +kernel
theorem d_inp_peek_26 : decode m_inp_peek.2.2.1 26 = .ok (.iaload, 1) := by decide +kernel
theorem d_inp_peek_27 : decode m_inp_peek.2.2.1 27 = .ok (.goto 4, 3) := by decide +kernel
theorem d_inp_peek_30 : decode m_inp_peek.2.2.1 30 = .ok (.iconst (-1), 1) := by decide +kernel
theorem d_inp_peek_31 : decode m_inp_peek.2.2.1 31 = .ok (.ireturn, 1) := by decide +kernel
theorem d_inp_take_0 : decode m_inp_take.2.2.1 0 = .ok (.aload_n 0, 1) := by decide +kernel
theorem d_inp_take_1 : decode m_inp_take.2.2.1 1 = .ok (.invokevirtual 23, 3) := by decide +kernel
theorem d_inp_take_4 : decode m_inp_take.2.2.1 4 = .ok (.iload_n 1, 1) := by decide +kernel
theorem d_inp_take_5 : decode m_inp_take.2.2.1 5 = .ok (.if_icmp .eq 5, 3) := by decide +kernel
theorem d_inp_take_8 : decode m_inp_take.2.2.1 8 = .ok (.iconst 0, 1) := by decide +kernel
theorem d_inp_take_9 : decode m_inp_take.2.2.1 9 = .ok (.ireturn, 1) := by decide +kernel
theorem d_inp_take_10 : decode m_inp_take.2.2.1 10 = .ok (.aload_n 0, 1) := by decide +kernel
theorem d_inp_take_11 : decode m_inp_take.2.2.1 11 = .ok (.dup, 1) := by decide +kernel
theorem d_inp_take_12 : decode m_inp_take.2.2.1 12 = .ok (.getfield 15, 3) := by decide +kernel
theorem d_inp_take_15 : decode m_inp_take.2.2.1 15 = .ok (.iconst 1, 1) := by decide +kernel
theorem d_inp_take_16 : decode m_inp_take.2.2.1 16 = .ok (.iadd, 1) := by decide +kernel
theorem d_inp_take_17 : decode m_inp_take.2.2.1 17 = .ok (.putfield 15, 3) := by decide +kernel
theorem d_inp_take_20 : decode m_inp_take.2.2.1 20 = .ok (.iconst 1, 1) := by decide +kernel
theorem d_inp_take_21 : decode m_inp_take.2.2.1 21 = .ok (.ireturn, 1) := by decide +kernel
theorem d_inp_isNextBetween_0 : decode m_inp_isNextBetween.2.2.1 0 = .ok (.aload_n 0, 1) := by decide +kernel
theorem d_inp_isNextBetween_1 : decode m_inp_isNextBetween.2.2.1 1 = .ok (.invokevirtual 23, 3) := by decide +kernel
theorem d_inp_isNextBetween_4 : decode m_inp_isNextBetween.2.2.1 4 = .ok (.iload_n 1, 1) := by decide +kernel
theorem d_inp_isNextBetween_5 : decode m_inp_isNextBetween.2.2.1 5 = .ok (.if_icmp .lt 15, 3) := by decide +kernel
theorem d_inp_isNextBetween_8 : decode m_inp_isNextBetween.2.2.1 8 = .ok (.aload_n 0, 1) := by decide +kernel
theorem d_inp_isNextBetween_9 : decode m_inp_isNextBetween.2.2.1 9 = .ok (.invokevirtual 23, 3) := by decide +kernel
theorem d_inp_isNextBetween_12 : decode m_inp_isNextBetween.2.2.1 12 = .ok (.iload_n 2, 1) := by decide +kernel
theorem d_inp_isNextBetween_13 : decode m_inp_isNextBetween.2.2.1 13 = .ok (.if_icmp .gt 7, 3) := by decide +kernel
theorem d_inp_isNextBetween_16 : decode m_inp_isNextBetween.2.2.1 16 = .ok (.iconst 1, 1) := by decide +kernel
theorem d_inp_isNextBetween_17 : decode m_inp_isNextBetween.2.2.1 17 = .ok (.goto 4, 3) := by decide +kernel
theorem d_inp_isNextBetween_20 : decode m_inp_isNextBetween.2.2.1 20 = .ok (.iconst 0, 1) := by decide +kernel
theorem d_inp_isNextBetween_21 : decode m_inp_isNextBetween.2.2.1 21 = .ok (.ireturn, 1) := by decide +kernel
theorem d_inp_readKind_0 : decode m_inp_readKind.2.2.1 0 = .ok (.iconst 0, 1) := by decide +kernel
theorem d_inp_readKind_1 : decode m_inp_readKind.2.2.1 1 = .ok (.istore_n 1, 1) := by decide +kernel
theorem d_inp_readKind_2 : decode m_inp_readKind.2.2.1 2 = .ok (.iconst 0, 1) := by decide +kernel
theorem d_inp_readKind_3 : decode m_inp_readKind.2.2.1 3 = .ok (.istore_n 2, 1) := by decide +kernel
theorem d_inp_readKind_4 : decode m_inp_readKind.2.2.1 4 = .ok (.iload_n 2, 1) := by decide +kernel
theorem d_inp_readKind_5 : decode m_inp_readKind.2.2.1 5 = .ok (.bipush 6, 2) := by decide +kernel
theorem d_inp_readKind_7 : decode m_inp_readKind.2.2.1 7 = .ok (.if_icmp .ge 50, 3) := by decide +kernel
theorem d_inp_readKind_10 : decode m_inp_readKind.2.2.1 10 = .ok (.iload_n 2, 1) := by decide +kernel
theorem d_inp_readKind_11 : decode m_inp_readKind.2.2.1 11 = .ok (.invokestatic 61, 3) := by decide +kernel
theorem d_inp_readKind_14 : decode m_inp_readKind.2.2.1 14 = .ok (.astore_n 3, 1) := by decide +kernel
theorem d_inp_readKind_15 : decode m_inp_readKind.2.2.1 15 = .ok (.aload_n 0, 1) := by decide +kernel
theorem d_inp_readKind_16 : decode m_inp_readKind.2.2.1 16 = .ok (.aload_n 3, 1) := by decide +kernel
theorem d_inp_readKind_17 : decode m_inp_readKind.2.2.1 17 = .ok (.invokevirtual 65, 3) := by decide +kernel
theorem d_inp_readKind_20 : decode m_inp_readKind.2.2.1 20 = .ok (.istore 4, 2) := by decide +kernel
theorem d_inp_readKind_22 : decode m_inp_readKind.2.2.1 22 = .ok (.iload 4, 2) := by decide +kernel
theorem d_inp_readKind_24 : decode m_inp_readKind.2.2.1 24 = .ok (.aload_n 3, 1) := by decide +kernel
theorem d_inp_readKind_25 : decode m_inp_readKind.2.2.1 25 = .ok (.invokevirtual 69, 3) := by decide +kernel
theorem d_inp_readKind_28 : decode m_inp_readKind.2.2.1 28 = .ok (.if_icmp .ne 16, 3) := by decide +kernel
theorem d_inp_readKind_31 : decode m_inp_readKind.2.2.1 31 = .ok (.aload_n 0, 1) := by decide +kernel
theorem d_inp_readKind_32 : decode m_inp_readKind.2.2.1 32 = .ok (.dup, 1) := by decide +kernel
theorem d_inp_readKind_33 : decode m_inp_readKind.2.2.1 33 = .ok (.getfield 15, 3) := by decide +kernel
theorem d_inp_readKind_36 : decode m_inp_readKind.2.2.1 36 = .ok (.iload 4, 2) := by decide +kernel
theorem d_inp_readKind_38 : decode m_inp_readKind.2.2.1 38 = .ok (.iadd, 1) := by decide +kernel
theorem d_inp_readKind_39 : decode m_inp_readKind.2.2.1 39 = .ok (.putfield 15, 3) := by decide +kernel
theorem d_inp_readKind_42 : decode m_inp_readKind.2.2.1 42 = .ok (.iload_n 2, 1) := by decide +kernel
theorem d_inp_readKind_43 : decode m_inp_readKind.2.2.1 43 = .ok (.ireturn, 1) := by decide +kernel
theorem d_inp_readKind_44 : decode m_inp_readKind.2.2.1 44 = .ok (.iload_n 1, 1) := by decide +kernel
theorem d_inp_readKind_45 : decode m_inp_readKind.2.2.1 45 = .ok (.iload 4, 2) := by decide +kernel
theorem d_inp_readKind_47 : decode m_inp_readKind.2.2.1 47 = .ok (.invokestatic 73, 3) := by decide +kernel
theorem d_inp_readKind_50 : decode m_inp_readKind.2.2.1 50 = .ok (.istore_n 1, 1) := by decide +kernel
theorem d_inp_readKind_51 : decode m_inp_readKind.2.2.1 51 = .ok (.iinc 2 1, 3) := by decide +kernel
theorem d_inp_readKind_54 : decode m_inp_readKind.2.2.1 54 = .ok (.goto (-50), 3) := by decide +kernel
theorem d_inp_readKind_57 : decode m_inp_readKind.2.2.1 57 = .ok (.aload_n 0, 1) := by decide +kernel
theorem d_inp_readKind_58 : decode m_inp_readKind.2.2.1 58 = .ok (.dup, 1) := by decide +kernel
theorem d_inp_readKind_59 : decode m_inp_readKind.2.2.1 59 = .ok (.getfield 15, 3) := by decide +kernel
theorem d_inp_readKind_62 : decode m_inp_readKind.2.2.1 62 = .ok (.iload_n 1, 1) := by decide +kernel
theorem d_inp_readKind_63 : decode m_inp_readKind.2.2.1 63 = .ok (.iadd, 1) := by decide +kernel
theorem d_inp_readKind_64 : decode m_inp_readKind.2.2.1 64 = .ok (.putfield 15, 3) := by decide +kernel
theorem d_inp_readKind_67 : decode m_inp_readKind.2.2.1 67 = .ok (.iconst (-1), 1) := by decide +kernel
theorem d_inp_readKind_68 : decode m_inp_readKind.2.2.1 68 = .ok (.ireturn, 1) := by decide +kernel
theorem d_inp_wordOf_0 : decode m_inp_wordOf.2.2.1 0 = .ok (.iload_n 0, 1) := by decide +kernel
theorem d_inp_wordOf_1 : decode m_inp_wordOf.2.2.1 1 = .ok (.tableswitch 50 0 4 #[35, 38, 41, 44, 47], 35) := by decide +kernel
theorem d_inp_wordOf_36 : decode m_inp_wordOf.2.2.1 36 = .ok (.ldc 79, 2) := by decide +kernel
theorem d_inp_wordOf_38 : decode m_inp_wordOf.2.2.1 38 = .ok (.areturn, 1) := by decide +kernel
theorem d_inp_wordOf_39 : decode m_inp_wordOf.2.2.1 39 = .ok (.ldc 81, 2) := by decide +kernel
theorem d_inp_wordOf_41 : decode m_inp_wordOf.2.2.1 41 = .ok (.areturn, 1) := by decide +kernel
theorem d_inp_wordOf_42 : decode m_inp_wordOf.2.2.1 42 = .ok (.ldc 83, 2) := by decide +kernel
theorem d_inp_wordOf_44 : decode m_inp_wordOf.2.2.1 44 = .ok (.areturn, 1) := by decide +kernel
theorem d_inp_wordOf_45 : decode m_inp_wordOf.2.2.1 45 = .ok (.ldc 85, 2) := by decide +kernel
theorem d_inp_wordOf_47 : decode m_inp_wordOf.2.2.1 47 = .ok (.areturn, 1) := by decide +kernel
theorem d_inp_wordOf_48 : decode m_inp_wordOf.2.2.1 48 = .ok (.ldc 87, 2) := by decide +kernel
theorem d_inp_wordOf_50 : decode m_inp_wordOf.2.2.1 50 = .ok (.areturn, 1) := by decide +kernel
theorem d_inp_wordOf_51 : decode m_inp_wordOf.2.2.1 51 = .ok (.ldc 89, 2) := by decide +kernel
theorem d_inp_wordOf_53 : decode m_inp_wordOf.2.2.1 53 = .ok (.areturn, 1) := by decide +kernel
theorem d_inp_matchingLength_0 : decode m_inp_matchingLength.2.2.1 0 = .ok (.aload_n 1, 1) := by decide +kernel
theorem d_inp_matchingLength_1 : decode m_inp_matchingLength.2.2.1 1 = .ok (.invokevirtual 69, 3) := by decide +kernel
theorem d_inp_matchingLength_4 : decode m_inp_matchingLength.2.2.1 4 = .ok (.aload_n 0, 1) := by decide +kernel
theorem d_inp_matchingLength_5 : decode m_inp_matchingLength.2.2.1 5 = .ok (.getfield 58, 3) := by decide +kernel
theorem d_inp_matchingLength_8 : decode m_inp_matchingLength.2.2.1 8 = .ok (.aload_n 0, 1) := by decide +kernel
theorem d_inp_matchingLength_9 : decode m_inp_matchingLength.2.2.1 9 = .ok (.getfield 15, 3) := by decide +kernel
theorem d_inp_matchingLength_12 : decode m_inp_matchingLength.2.2.1 12 = .ok (.isub, 1) := by decide +kernel
theorem d_inp_matchingLength_13 : decode m_inp_matchingLength.2.2.1 13 = .ok (.invokestatic 91, 3) := by decide +kernel
theorem d_inp_matchingLength_16 : decode m_inp_matchingLength.2.2.1 16 = .ok (.istore_n 2, 1) := by decide +kernel
theorem d_inp_matchingLength_17 : decode m_inp_matchingLength.2.2.1 17 = .ok (.iconst 0, 1) := by decide +kernel
theorem d_inp_matchingLength_18 : decode m_inp_matchingLength.2.2.1 18 = .ok (.istore_n 3, 1) := by decide +kernel
theorem d_inp_matchingLength_19 : decode m_inp_matchingLength.2.2.1 19 = .ok (.iload_n 3, 1) := by decide +kernel
theorem d_inp_matchingLength_20 : decode m_inp_matchingLength.2.2.1 20 = .ok (.iload_n 2, 1) := by decide +kernel
theorem d_inp_matchingLength_21 : decode m_inp_matchingLength.2.2.1 21 = .ok (.if_icmp .ge 28, 3) := by decide +kernel
theorem d_inp_matchingLength_24 : decode m_inp_matchingLength.2.2.1 24 = .ok (.aload_n 0, 1) := by decide +kernel
theorem d_inp_matchingLength_25 : decode m_inp_matchingLength.2.2.1 25 = .ok (.getfield 9, 3) := by decide +kernel
theorem d_inp_matchingLength_28 : decode m_inp_matchingLength.2.2.1 28 = .ok (.aload_n 0, 1) := by decide +kernel
theorem d_inp_matchingLength_29 : decode m_inp_matchingLength.2.2.1 29 = .ok (.getfield 15, 3) := by decide +kernel
theorem d_inp_matchingLength_32 : decode m_inp_matchingLength.2.2.1 32 = .ok (.iload_n 3, 1) := by decide +kernel
theorem d_inp_matchingLength_33 : decode m_inp_matchingLength.2.2.1 33 = .ok (.iadd, 1) := by decide +kernel
theorem d_inp_matchingLength_34 : decode m_inp_matchingLength.2.2.1 34 = .ok (.iaload, 1) := by decide +kernel
theorem d_inp_matchingLength_35 : decode m_inp_matchingLength.2.2.1 35 = .ok (.aload_n 1, 1) := by decide +kernel
theorem d_inp_matchingLength_36 : decode m_inp_matchingLength.2.2.1 36 = .ok (.iload_n 3, 1) := by decide +kernel
theorem d_inp_matchingLength_37 : decode m_inp_matchingLength.2.2.1 37 = .ok (.invokevirtual 94, 3) := by decide +kernel
theorem d_inp_matchingLength_40 : decode m_inp_matchingLength.2.2.1 40 = .ok (.if_icmp .ne 9, 3) := by decide +kernel
theorem d_inp_matchingLength_43 : decode m_inp_matchingLength.2.2.1 43 = .ok (.iinc 3 1, 3) := by decide +kernel
theorem d_inp_matchingLength_46 : decode m_inp_matchingLength.2.2.1 46 = .ok (.goto (-27), 3) := by decide +kernel
theorem d_inp_matchingLength_49 : decode m_inp_matchingLength.2.2.1 49 = .ok (.iload_n 3, 1) := by decide +kernel
theorem d_inp_matchingLength_50 : decode m_inp_matchingLength.2.2.1 50 = .ok (.ireturn, 1) := by decide +kernel
theorem d_inp_readPath_0 : decode m_inp_readPath.2.2.1 0 = .ok (.aload_n 0, 1) := by decide +kernel
theorem d_inp_readPath_1 : decode m_inp_readPath.2.2.1 1 = .ok (.invokevirtual 98, 3) := by decide +kernel
theorem d_inp_readPath_4 : decode m_inp_readPath.2.2.1 4 = .ok (.istore_n 1, 1) := by decide +kernel
theorem d_inp_readPath_5 : decode m_inp_readPath.2.2.1 5 = .ok (.iload_n 1, 1) := by decide +kernel
theorem d_inp_readPath_6 : decode m_inp_readPath.2.2.1 6 = .ok (.ifCond .ne 5, 3) := by decide +kernel
theorem d_inp_readPath_9 : decode m_inp_readPath.2.2.1 9 = .ok (.lconst 0, 1) := by decide +kernel
theorem d_inp_readPath_10 : decode m_inp_readPath.2.2.1 10 = .ok (.lreturn, 1) := by decide +kernel
theorem d_inp_readPath_11 : decode m_inp_readPath.2.2.1 11 = .ok (.lconst 0, 1) := by decide +kernel
theorem d_inp_readPath_12 : decode m_inp_readPath.2.2.1 12 = .ok (.iload_n 1, 1) := by decide +kernel
theorem d_inp_readPath_13 : decode m_inp_readPath.2.2.1 13 = .ok (.invokestatic 101, 3) := by decide +kernel
theorem d_inp_readPath_16 : decode m_inp_readPath.2.2.1 16 = .ok (.lstore_n 2, 1) := by decide +kernel
theorem d_inp_readPath_17 : decode m_inp_readPath.2.2.1 17 = .ok (.iconst 2, 1) := by decide +kernel
theorem d_inp_readPath_18 : decode m_inp_readPath.2.2.1 18 = .ok (.istore 4, 2) := by decide +kernel
theorem d_inp_readPath_20 : decode m_inp_readPath.2.2.1 20 = .ok (.iload 4, 2) := by decide +kernel
theorem d_inp_readPath_22 : decode m_inp_readPath.2.2.1 22 = .ok (.iconst 3, 1) := by decide +kernel
theorem d_inp_readPath_23 : decode m_inp_readPath.2.2.1 23 = .ok (.if_icmp .gt 44, 3) := by decide +kernel
theorem d_inp_readPath_26 : decode m_inp_readPath.2.2.1 26 = .ok (.aload_n 0, 1) := by decide +kernel
theorem d_inp_readPath_27 : decode m_inp_readPath.2.2.1 27 = .ok (.bipush 40, 2) := by decide +kernel
theorem d_inp_readPath_29 : decode m_inp_readPath.2.2.1 29 = .ok (.invokevirtual 27, 3) := by decide +kernel
theorem d_inp_readPath_32 : decode m_inp_readPath.2.2.1 32 = .ok (.ifCond .eq 35, 3) := by decide +kernel
theorem d_inp_readPath_35 : decode m_inp_readPath.2.2.1 35 = .ok (.aload_n 0, 1) := by decide +kernel
theorem d_inp_readPath_36 : decode m_inp_readPath.2.2.1 36 = .ok (.invokevirtual 98, 3) := by decide +kernel
theorem d_inp_readPath_39 : decode m_inp_readPath.2.2.1 39 = .ok (.istore_n 1, 1) := by decide +kernel
theorem d_inp_readPath_40 : decode m_inp_readPath.2.2.1 40 = .ok (.iload_n 1, 1) := by decide +kernel
theorem d_inp_readPath_41 : decode m_inp_readPath.2.2.1 41 = .ok (.ifCond .eq 12, 3) := by decide +kernel
theorem d_inp_readPath_44 : decode m_inp_readPath.2.2.1 44 = .ok (.aload_n 0, 1) := by decide +kernel
theorem d_inp_readPath_45 : decode m_inp_readPath.2.2.1 45 = .ok (.bipush 41, 2) := by decide +kernel
theorem d_inp_readPath_47 : decode m_inp_readPath.2.2.1 47 = .ok (.invokevirtual 27, 3) := by decide +kernel
theorem d_inp_readPath_50 : decode m_inp_readPath.2.2.1 50 = .ok (.ifCond .ne 5, 3) := by decide +kernel
theorem d_inp_readPath_53 : decode m_inp_readPath.2.2.1 53 = .ok (.lconst 0, 1) := by decide +kernel
theorem d_inp_readPath_54 : decode m_inp_readPath.2.2.1 54 = .ok (.lreturn, 1) := by decide +kernel
theorem d_inp_readPath_55 : decode m_inp_readPath.2.2.1 55 = .ok (.lload_n 2, 1) := by decide +kernel
theorem d_inp_readPath_56 : decode m_inp_readPath.2.2.1 56 = .ok (.iload_n 1, 1) := by decide +kernel
theorem d_inp_readPath_57 : decode m_inp_readPath.2.2.1 57 = .ok (.invokestatic 101, 3) := by decide +kernel
theorem d_inp_readPath_60 : decode m_inp_readPath.2.2.1 60 = .ok (.lstore_n 2, 1) := by decide +kernel
theorem d_inp_readPath_61 : decode m_inp_readPath.2.2.1 61 = .ok (.iinc 4 1, 3) := by decide +kernel
theorem d_inp_readPath_64 : decode m_inp_readPath.2.2.1 64 = .ok (.goto (-44), 3) := by decide +kernel
theorem d_inp_readPath_67 : decode m_inp_readPath.2.2.1 67 = .ok (.lload_n 2, 1) := by decide +kernel
theorem d_inp_readPath_68 : decode m_inp_readPath.2.2.1 68 = .ok (.lreturn, 1) := by decide +kernel
theorem d_inp_readLabel_0 : decode m_inp_readLabel.2.2.1 0 = .ok (.aload_n 0, 1) := by decide +kernel
theorem d_inp_readLabel_1 : decode m_inp_readLabel.2.2.1 1 = .ok (.bipush 49, 2) := by decide +kernel
theorem d_inp_readLabel_3 : decode m_inp_readLabel.2.2.1 3 = .ok (.bipush 57, 2) := by decide +kernel
theorem d_inp_readLabel_5 : decode m_inp_readLabel.2.2.1 5 = .ok (.invokevirtual 105, 3) := by decide +kernel
theorem d_inp_readLabel_8 : decode m_inp_readLabel.2.2.1 8 = .ok (.ifCond .ne 5, 3) := by decide +kernel
theorem d_inp_readLabel_11 : decode m_inp_readLabel.2.2.1 11 = .ok (.iconst 0, 1) := by decide +kernel
theorem d_inp_readLabel_12 : decode m_inp_readLabel.2.2.1 12 = .ok (.ireturn, 1) := by decide +kernel
theorem d_inp_readLabel_13 : decode m_inp_readLabel.2.2.1 13 = .ok (.aload_n 0, 1) := by decide +kernel
theorem d_inp_readLabel_14 : decode m_inp_readLabel.2.2.1 14 = .ok (.invokevirtual 109, 3) := by decide +kernel
theorem d_inp_readLabel_17 : decode m_inp_readLabel.2.2.1 17 = .ok (.istore_n 1, 1) := by decide +kernel
theorem d_inp_readLabel_18 : decode m_inp_readLabel.2.2.1 18 = .ok (.aload_n 0, 1) := by decide +kernel
theorem d_inp_readLabel_19 : decode m_inp_readLabel.2.2.1 19 = .ok (.bipush 48, 2) := by decide +kernel
theorem d_inp_readLabel_21 : decode m_inp_readLabel.2.2.1 21 = .ok (.bipush 57, 2) := by decide +kernel
theorem d_inp_readLabel_23 : decode m_inp_readLabel.2.2.1 23 = .ok (.invokevirtual 105, 3) := by decide +kernel
theorem d_inp_readLabel_26 : decode m_inp_readLabel.2.2.1 26 = .ok (.ifCond .eq 13, 3) := by decide +kernel
theorem d_inp_readLabel_29 : decode m_inp_readLabel.2.2.1 29 = .ok (.iload_n 1, 1) := by decide +kernel
theorem d_inp_readLabel_30 : decode m_inp_readLabel.2.2.1 30 = .ok (.bipush 10, 2) := by decide +kernel
theorem d_inp_readLabel_32 : decode m_inp_readLabel.2.2.1 32 = .ok (.imul, 1) := by decide +kernel
theorem d_inp_readLabel_33 : decode m_inp_readLabel.2.2.1 33 = .ok (.aload_n 0, 1) := by decide +kernel
theorem d_inp_readLabel_34 : decode m_inp_readLabel.2.2.1 34 = .ok (.invokevirtual 109, 3) := by decide +kernel
theorem d_inp_readLabel_37 : decode m_inp_readLabel.2.2.1 37 = .ok (.iadd, 1) := by decide +kernel
theorem d_inp_readLabel_38 : decode m_inp_readLabel.2.2.1 38 = .ok (.istore_n 1, 1) := by decide +kernel
theorem d_inp_readLabel_39 : decode m_inp_readLabel.2.2.1 39 = .ok (.iload_n 1, 1) := by decide +kernel
theorem d_inp_readLabel_40 : decode m_inp_readLabel.2.2.1 40 = .ok (.invokestatic 112, 3) := by decide +kernel
theorem d_inp_readLabel_43 : decode m_inp_readLabel.2.2.1 43 = .ok (.istore_n 2, 1) := by decide +kernel
theorem d_inp_readLabel_44 : decode m_inp_readLabel.2.2.1 44 = .ok (.sipush 729, 3) := by decide +kernel
theorem d_inp_readLabel_47 : decode m_inp_readLabel.2.2.1 47 = .ok (.istore_n 3, 1) := by decide +kernel
theorem d_inp_readLabel_48 : decode m_inp_readLabel.2.2.1 48 = .ok (.iconst 0, 1) := by decide +kernel
theorem d_inp_readLabel_49 : decode m_inp_readLabel.2.2.1 49 = .ok (.istore 4, 2) := by decide +kernel
theorem d_inp_readLabel_51 : decode m_inp_readLabel.2.2.1 51 = .ok (.iload 4, 2) := by decide +kernel
theorem d_inp_readLabel_53 : decode m_inp_readLabel.2.2.1 53 = .ok (.iconst 3, 1) := by decide +kernel
theorem d_inp_readLabel_54 : decode m_inp_readLabel.2.2.1 54 = .ok (.if_icmp .ge 49, 3) := by decide +kernel
theorem d_inp_readLabel_57 : decode m_inp_readLabel.2.2.1 57 = .ok (.aload_n 0, 1) := by decide +kernel
theorem d_inp_readLabel_58 : decode m_inp_readLabel.2.2.1 58 = .ok (.bipush 65, 2) := by decide +kernel
theorem d_inp_readLabel_60 : decode m_inp_readLabel.2.2.1 60 = .ok (.bipush 90, 2) := by decide +kernel
theorem d_inp_readLabel_62 : decode m_inp_readLabel.2.2.1 62 = .ok (.invokevirtual 105, 3) := by decide +kernel
theorem d_inp_readLabel_65 : decode m_inp_readLabel.2.2.1 65 = .ok (.ifCond .eq 38, 3) := by decide +kernel
theorem d_inp_readLabel_68 : decode m_inp_readLabel.2.2.1 68 = .ok (.iload_n 2, 1) := by decide +kernel
theorem d_inp_readLabel_69 : decode m_inp_readLabel.2.2.1 69 = .ok (.aload_n 0, 1) := by decide +kernel
theorem d_inp_readLabel_70 : decode m_inp_readLabel.2.2.1 70 = .ok (.invokevirtual 23, 3) := by decide +kernel
theorem d_inp_readLabel_73 : decode m_inp_readLabel.2.2.1 73 = .ok (.bipush 65, 2) := by decide +kernel
theorem d_inp_readLabel_75 : decode m_inp_readLabel.2.2.1 75 = .ok (.isub, 1) := by decide +kernel
theorem d_inp_readLabel_76 : decode m_inp_readLabel.2.2.1 76 = .ok (.iconst 1, 1) := by decide +kernel
theorem d_inp_readLabel_77 : decode m_inp_readLabel.2.2.1 77 = .ok (.iadd, 1) := by decide +kernel
theorem d_inp_readLabel_78 : decode m_inp_readLabel.2.2.1 78 = .ok (.iload_n 3, 1) := by decide +kernel
theorem d_inp_readLabel_79 : decode m_inp_readLabel.2.2.1 79 = .ok (.imul, 1) := by decide +kernel
theorem d_inp_readLabel_80 : decode m_inp_readLabel.2.2.1 80 = .ok (.iadd, 1) := by decide +kernel
theorem d_inp_readLabel_81 : decode m_inp_readLabel.2.2.1 81 = .ok (.istore_n 2, 1) := by decide +kernel
theorem d_inp_readLabel_82 : decode m_inp_readLabel.2.2.1 82 = .ok (.iload_n 3, 1) := by decide +kernel
theorem d_inp_readLabel_83 : decode m_inp_readLabel.2.2.1 83 = .ok (.bipush 27, 2) := by decide +kernel
theorem d_inp_readLabel_85 : decode m_inp_readLabel.2.2.1 85 = .ok (.idiv, 1) := by decide +kernel
theorem d_inp_readLabel_86 : decode m_inp_readLabel.2.2.1 86 = .ok (.istore_n 3, 1) := by decide +kernel
theorem d_inp_readLabel_87 : decode m_inp_readLabel.2.2.1 87 = .ok (.aload_n 0, 1) := by decide +kernel
theorem d_inp_readLabel_88 : decode m_inp_readLabel.2.2.1 88 = .ok (.dup, 1) := by decide +kernel
theorem d_inp_readLabel_89 : decode m_inp_readLabel.2.2.1 89 = .ok (.getfield 15, 3) := by decide +kernel
theorem d_inp_readLabel_92 : decode m_inp_readLabel.2.2.1 92 = .ok (.iconst 1, 1) := by decide +kernel
theorem d_inp_readLabel_93 : decode m_inp_readLabel.2.2.1 93 = .ok (.iadd, 1) := by decide +kernel
theorem d_inp_readLabel_94 : decode m_inp_readLabel.2.2.1 94 = .ok (.putfield 15, 3) := by decide +kernel
theorem d_inp_readLabel_97 : decode m_inp_readLabel.2.2.1 97 = .ok (.iinc 4 1, 3) := by decide +kernel
theorem d_inp_readLabel_100 : decode m_inp_readLabel.2.2.1 100 = .ok (.goto (-49), 3) := by decide +kernel
theorem d_inp_readLabel_103 : decode m_inp_readLabel.2.2.1 103 = .ok (.iload_n 2, 1) := by decide +kernel
theorem d_inp_readLabel_104 : decode m_inp_readLabel.2.2.1 104 = .ok (.ireturn, 1) := by decide +kernel
theorem d_inp_readText_0 : decode m_inp_readText.2.2.1 0 = .ok (.aload_n 0, 1) := by decide +kernel
theorem d_inp_readText_1 : decode m_inp_readText.2.2.1 1 = .ok (.bipush 48, 2) := by decide +kernel
theorem d_inp_readText_3 : decode m_inp_readText.2.2.1 3 = .ok (.bipush 57, 2) := by decide +kernel
theorem d_inp_readText_5 : decode m_inp_readText.2.2.1 5 = .ok (.invokevirtual 105, 3) := by decide +kernel
theorem d_inp_readText_8 : decode m_inp_readText.2.2.1 8 = .ok (.ifCond .ne 5, 3) := by decide +kernel
theorem d_inp_readText_11 : decode m_inp_readText.2.2.1 11 = .ok (.iconst (-1), 1) := by decide +kernel
theorem d_inp_readText_12 : decode m_inp_readText.2.2.1 12 = .ok (.ireturn, 1) := by decide +kernel
theorem d_inp_readText_13 : decode m_inp_readText.2.2.1 13 = .ok (.iconst 0, 1) := by decide +kernel
theorem d_inp_readText_14 : decode m_inp_readText.2.2.1 14 = .ok (.istore_n 1, 1) := by decide +kernel
theorem d_inp_readText_15 : decode m_inp_readText.2.2.1 15 = .ok (.iconst 0, 1) := by decide +kernel
theorem d_inp_readText_16 : decode m_inp_readText.2.2.1 16 = .ok (.istore_n 2, 1) := by decide +kernel
theorem d_inp_readText_17 : decode m_inp_readText.2.2.1 17 = .ok (.iload_n 2, 1) := by decide +kernel
theorem d_inp_readText_18 : decode m_inp_readText.2.2.1 18 = .ok (.iconst 4, 1) := by decide +kernel
theorem d_inp_readText_19 : decode m_inp_readText.2.2.1 19 = .ok (.if_icmp .ge 30, 3) := by decide +kernel
theorem d_inp_readText_22 : decode m_inp_readText.2.2.1 22 = .ok (.aload_n 0, 1) := by decide +kernel
theorem d_inp_readText_23 : decode m_inp_readText.2.2.1 23 = .ok (.bipush 48, 2) := by decide +kernel
theorem d_inp_readText_25 : decode m_inp_readText.2.2.1 25 = .ok (.bipush 57, 2) := by decide +kernel
theorem d_inp_readText_27 : decode m_inp_readText.2.2.1 27 = .ok (.invokevirtual 105, 3) := by decide +kernel
theorem d_inp_readText_30 : decode m_inp_readText.2.2.1 30 = .ok (.ifCond .eq 19, 3) := by decide +kernel
theorem d_inp_readText_33 : decode m_inp_readText.2.2.1 33 = .ok (.iload_n 1, 1) := by decide +kernel
theorem d_inp_readText_34 : decode m_inp_readText.2.2.1 34 = .ok (.bipush 10, 2) := by decide +kernel
theorem d_inp_readText_36 : decode m_inp_readText.2.2.1 36 = .ok (.imul, 1) := by decide +kernel
theorem d_inp_readText_37 : decode m_inp_readText.2.2.1 37 = .ok (.aload_n 0, 1) := by decide +kernel
theorem d_inp_readText_38 : decode m_inp_readText.2.2.1 38 = .ok (.invokevirtual 109, 3) := by decide +kernel
theorem d_inp_readText_41 : decode m_inp_readText.2.2.1 41 = .ok (.iadd, 1) := by decide +kernel
theorem d_inp_readText_42 : decode m_inp_readText.2.2.1 42 = .ok (.istore_n 1, 1) := by decide +kernel
theorem d_inp_readText_43 : decode m_inp_readText.2.2.1 43 = .ok (.iinc 2 1, 3) := by decide +kernel
theorem d_inp_readText_46 : decode m_inp_readText.2.2.1 46 = .ok (.goto (-29), 3) := by decide +kernel
theorem d_inp_readText_49 : decode m_inp_readText.2.2.1 49 = .ok (.iload_n 1, 1) := by decide +kernel
theorem d_inp_readText_50 : decode m_inp_readText.2.2.1 50 = .ok (.ireturn, 1) := by decide +kernel
theorem d_inp_takeDigit_0 : decode m_inp_takeDigit.2.2.1 0 = .ok (.aload_n 0, 1) := by decide +kernel
theorem d_inp_takeDigit_1 : decode m_inp_takeDigit.2.2.1 1 = .ok (.invokevirtual 23, 3) := by decide +kernel
theorem d_inp_takeDigit_4 : decode m_inp_takeDigit.2.2.1 4 = .ok (.bipush 48, 2) := by decide +kernel
theorem d_inp_takeDigit_6 : decode m_inp_takeDigit.2.2.1 6 = .ok (.isub, 1) := by decide +kernel
theorem d_inp_takeDigit_7 : decode m_inp_takeDigit.2.2.1 7 = .ok (.istore_n 1, 1) := by decide +kernel
theorem d_inp_takeDigit_8 : decode m_inp_takeDigit.2.2.1 8 = .ok (.aload_n 0, 1) := by decide +kernel
theorem d_inp_takeDigit_9 : decode m_inp_takeDigit.2.2.1 9 = .ok (.dup, 1) := by decide +kernel
theorem d_inp_takeDigit_10 : decode m_inp_takeDigit.2.2.1 10 = .ok (.getfield 15, 3) := by decide +kernel
theorem d_inp_takeDigit_13 : decode m_inp_takeDigit.2.2.1 13 = .ok (.iconst 1, 1) := by decide +kernel
theorem d_inp_takeDigit_14 : decode m_inp_takeDigit.2.2.1 14 = .ok (.iadd, 1) := by decide +kernel
theorem d_inp_takeDigit_15 : decode m_inp_takeDigit.2.2.1 15 = .ok (.putfield 15, 3) := by decide +kernel
theorem d_inp_takeDigit_18 : decode m_inp_takeDigit.2.2.1 18 = .ok (.iload_n 1, 1) := by decide +kernel
theorem d_inp_takeDigit_19 : decode m_inp_takeDigit.2.2.1 19 = .ok (.ireturn, 1) := by decide +kernel
theorem d_sh_init_0 : decode m_sh_init.2.2.1 0 = .ok (.aload_n 0, 1) := by decide +kernel
theorem d_sh_init_1 : decode m_sh_init.2.2.1 1 = .ok (.invokespecial 3, 3) := by decide +kernel
theorem d_sh_init_4 : decode m_sh_init.2.2.1 4 = .ok (.aload_n 0, 1) := by decide +kernel
theorem d_sh_init_5 : decode m_sh_init.2.2.1 5 = .ok (.iconst 3, 1) := by decide +kernel
theorem d_sh_init_6 : decode m_sh_init.2.2.1 6 = .ok (.newarray .boolean, 2) := by decide +kernel
theorem d_sh_init_8 : decode m_sh_init.2.2.1 8 = .ok (.putfield 9, 3) := by decide +kernel
theorem d_sh_init_11 : decode m_sh_init.2.2.1 11 = .ok (.aload_n 0, 1) := by decide +kernel
theorem d_sh_init_12 : decode m_sh_init.2.2.1 12 = .ok (.iconst 3, 1) := by decide +kernel
theorem d_sh_init_13 : decode m_sh_init.2.2.1 13 = .ok (.newarray .int, 2) := by decide +kernel
theorem d_sh_init_15 : decode m_sh_init.2.2.1 15 = .ok (.putfield 15, 3) := by decide +kernel
theorem d_sh_init_18 : decode m_sh_init.2.2.1 18 = .ok (.aload_n 0, 1) := by decide +kernel
theorem d_sh_init_19 : decode m_sh_init.2.2.1 19 = .ok (.iconst 3, 1) := by decide +kernel
theorem d_sh_init_20 : decode m_sh_init.2.2.1 20 = .ok (.newarray .int, 2) := by decide +kernel
theorem d_sh_init_22 : decode m_sh_init.2.2.1 22 = .ok (.putfield 19, 3) := by decide +kernel
theorem d_sh_init_25 : decode m_sh_init.2.2.1 25 = .ok (.aload_n 0, 1) := by decide +kernel
theorem d_sh_init_26 : decode m_sh_init.2.2.1 26 = .ok (.iconst 3, 1) := by decide +kernel
theorem d_sh_init_27 : decode m_sh_init.2.2.1 27 = .ok (.bipush 10, 2) := by decide +kernel
theorem d_sh_init_29 : decode m_sh_init.2.2.1 29 = .ok (.multianewarray 22 2, 4) := by decide +kernel
theorem d_sh_init_33 : decode m_sh_init.2.2.1 33 = .ok (.putfield 24, 3) := by decide +kernel
theorem d_sh_init_36 : decode m_sh_init.2.2.1 36 = .ok (.return_, 1) := by decide +kernel
theorem d_sh_emptyAll_0 : decode m_sh_emptyAll.2.2.1 0 = .ok (.iconst 0, 1) := by decide +kernel
theorem d_sh_emptyAll_1 : decode m_sh_emptyAll.2.2.1 1 = .ok (.istore_n 1, 1) := by decide +kernel
theorem d_sh_emptyAll_2 : decode m_sh_emptyAll.2.2.1 2 = .ok (.iload_n 1, 1) := by decide +kernel
theorem d_sh_emptyAll_3 : decode m_sh_emptyAll.2.2.1 3 = .ok (.iconst 3, 1) := by decide +kernel
theorem d_sh_emptyAll_4 : decode m_sh_emptyAll.2.2.1 4 = .ok (.if_icmp .ge 16, 3) := by decide +kernel
theorem d_sh_emptyAll_7 : decode m_sh_emptyAll.2.2.1 7 = .ok (.aload_n 0, 1) := by decide +kernel
theorem d_sh_emptyAll_8 : decode m_sh_emptyAll.2.2.1 8 = .ok (.getfield 9, 3) := by decide +kernel
theorem d_sh_emptyAll_11 : decode m_sh_emptyAll.2.2.1 11 = .ok (.iload_n 1, 1) := by decide +kernel
theorem d_sh_emptyAll_12 : decode m_sh_emptyAll.2.2.1 12 = .ok (.iconst 0, 1) := by decide +kernel
theorem d_sh_emptyAll_13 : decode m_sh_emptyAll.2.2.1 13 = .ok (.bastore, 1) := by decide +kernel
theorem d_sh_emptyAll_14 : decode m_sh_emptyAll.2.2.1 14 = .ok (.iinc 1 1, 3) := by decide +kernel
theorem d_sh_emptyAll_17 : decode m_sh_emptyAll.2.2.1 17 = .ok (.goto (-15), 3) := by decide +kernel
theorem d_sh_emptyAll_20 : decode m_sh_emptyAll.2.2.1 20 = .ok (.return_, 1) := by decide +kernel
theorem d_sh_refusalOf_0 : decode m_sh_refusalOf.2.2.1 0 = .ok (.aload_n 0, 1) := by decide +kernel
theorem d_sh_refusalOf_1 : decode m_sh_refusalOf.2.2.1 1 = .ok (.getfield 9, 3) := by decide +kernel
theorem d_sh_refusalOf_4 : decode m_sh_refusalOf.2.2.1 4 = .ok (.iload_n 1, 1) := by decide +kernel
theorem d_sh_refusalOf_5 : decode m_sh_refusalOf.2.2.1 5 = .ok (.baload, 1) := by decide +kernel
theorem d_sh_refusalOf_6 : decode m_sh_refusalOf.2.2.1 6 = .ok (.ifCond .ne 6, 3) := by decide +kernel
theorem d_sh_refusalOf_9 : decode m_sh_refusalOf.2.2.1 9 = .ok (.bipush (-11), 2) := by decide +kernel
theorem d_sh_refusalOf_11 : decode m_sh_refusalOf.2.2.1 11 = .ok (.ireturn, 1) := by decide +kernel
theorem d_sh_refusalOf_12 : decode m_sh_refusalOf.2.2.1 12 = .ok (.iload_n 2, 1) := by decide +kernel
theorem d_sh_refusalOf_13 : decode m_sh_refusalOf.2.2.1 13 = .ok (.ifCond .lt 17, 3) := by decide +kernel
theorem d_sh_refusalOf_16 : decode m_sh_refusalOf.2.2.1 16 = .ok (.iload_n 2, 1) := by decide +kernel
theorem d_sh_refusalOf_17 : decode m_sh_refusalOf.2.2.1 17 = .ok (.aload_n 0, 1) := by decide +kernel
theorem d_sh_refusalOf_18 : decode m_sh_refusalOf.2.2.1 18 = .ok (.getfield 19, 3) := by decide +kernel
theorem d_sh_refusalOf_21 : decode m_sh_refusalOf.2.2.1 21 = .ok (.iload_n 1, 1) := by decide +kernel
theorem d_sh_refusalOf_22 : decode m_sh_refusalOf.2.2.1 22 = .ok (.iaload, 1) := by decide +kernel
theorem d_sh_refusalOf_23 : decode m_sh_refusalOf.2.2.1 23 = .ok (.if_icmp .ge 7, 3) := by decide +kernel
theorem d_sh_refusalOf_26 : decode m_sh_refusalOf.2.2.1 26 = .ok (.iconst 0, 1) := by decide +kernel
theorem d_sh_refusalOf_27 : decode m_sh_refusalOf.2.2.1 27 = .ok (.goto 5, 3) := by decide +kernel
theorem d_sh_refusalOf_30 : decode m_sh_refusalOf.2.2.1 30 = .ok (.bipush (-12), 2) := by decide +kernel
theorem d_sh_refusalOf_32 : decode m_sh_refusalOf.2.2.1 32 = .ok (.ireturn, 1) := by decide +kernel
theorem d_sh_fillWithMissing_0 : decode m_sh_fillWithMissing.2.2.1 0 = .ok (.aload_n 0, 1) := by decide +kernel
theorem d_sh_fillWithMissing_1 : decode m_sh_fillWithMissing.2.2.1 1 = .ok (.getfield 9, 3) := by decide +kernel
theorem d_sh_fillWithMissing_4 : decode m_sh_fillWithMissing.2.2.1 4 = .ok (.iload_n 1, 1) := by decide +kernel
theorem d_sh_fillWithMissing_5 : decode m_sh_fillWithMissing.2.2.1 5 = .ok (.iconst 1, 1) := by decide +kernel
theorem d_sh_fillWithMissing_6 : decode m_sh_fillWithMissing.2.2.1 6 = .ok (.bastore, 1) := by decide +kernel
theorem d_sh_fillWithMissing_7 : decode m_sh_fillWithMissing.2.2.1 7 = .ok (.aload_n 0, 1) := by decide +kernel
theorem d_sh_fillWithMissing_8 : decode m_sh_fillWithMissing.2.2.1 8 = .ok (.getfield 15, 3) := by decide +kernel
theorem d_sh_fillWithMissing_11 : decode m_sh_fillWithMissing.2.2.1 11 = .ok (.iload_n 1, 1) := by decide +kernel
theorem d_sh_fillWithMissing_12 : decode m_sh_fillWithMissing.2.2.1 12 = .ok (.iload_n 2, 1) := by decide +kernel
theorem d_sh_fillWithMissing_13 : decode m_sh_fillWithMissing.2.2.1 13 = .ok (.iastore, 1) := by decide +kernel
theorem d_sh_fillWithMissing_14 : decode m_sh_fillWithMissing.2.2.1 14 = .ok (.aload_n 0, 1) := by decide +kernel
theorem d_sh_fillWithMissing_15 : decode m_sh_fillWithMissing.2.2.1 15 = .ok (.getfield 19, 3) := by decide +kernel
theorem d_sh_fillWithMissing_18 : decode m_sh_fillWithMissing.2.2.1 18 = .ok (.iload_n 1, 1) := by decide +kernel
theorem d_sh_fillWithMissing_19 : decode m_sh_fillWithMissing.2.2.1 19 = .ok (.iload_n 3, 1) := by decide +kernel
theorem d_sh_fillWithMissing_20 : decode m_sh_fillWithMissing.2.2.1 20 = .ok (.iastore, 1) := by decide +kernel
theorem d_sh_fillWithMissing_21 : decode m_sh_fillWithMissing.2.2.1 21 = .ok (.iconst 0, 1) := by decide +kernel
theorem d_sh_fillWithMissing_22 : decode m_sh_fillWithMissing.2.2.1 22 = .ok (.istore 4, 2) := by decide +kernel
theorem d_sh_fillWithMissing_24 : decode m_sh_fillWithMissing.2.2.1 24 = .ok (.iload 4, 2) := by decide +kernel
theorem d_sh_fillWithMissing_26 : decode m_sh_fillWithMissing.2.2.1 26 = .ok (.bipush 10, 2) := by decide +kernel
theorem d_sh_fillWithMissing_28 : decode m_sh_fillWithMissing.2.2.1 28 = .ok (.if_icmp .ge 20, 3) := by decide +kernel
theorem d_sh_fillWithMissing_31 : decode m_sh_fillWithMissing.2.2.1 31 = .ok (.aload_n 0, 1) := by decide +kernel
theorem d_sh_fillWithMissing_32 : decode m_sh_fillWithMissing.2.2.1 32 = .ok (.getfield 24, 3) := by decide +kernel
theorem d_sh_fillWithMissing_35 : decode m_sh_fillWithMissing.2.2.1 35 = .ok (.iload_n 1, 1) := by decide +kernel
theorem d_sh_fillWithMissing_36 : decode m_sh_fillWithMissing.2.2.1 36 = .ok (.aaload, 1) := by decide +kernel
theorem d_sh_fillWithMissing_37 : decode m_sh_fillWithMissing.2.2.1 37 = .ok (.iload 4, 2) := by decide +kernel
theorem d_sh_fillWithMissing_39 : decode m_sh_fillWithMissing.2.2.1 39 = .ok (.bipush (-11), 2) := by decide +kernel
theorem d_sh_fillWithMissing_41 : decode m_sh_fillWithMissing.2.2.1 41 = .ok (.iastore, 1) := by decide +kernel
theorem d_sh_fillWithMissing_42 : decode m_sh_fillWithMissing.2.2.1 42 = .ok (.iinc 4 1, 3) := by decide +kernel
theorem d_sh_fillWithMissing_45 : decode m_sh_fillWithMissing.2.2.1 45 = .ok (.goto (-21), 3) := by decide +kernel
theorem d_sh_fillWithMissing_48 : decode m_sh_fillWithMissing.2.2.1 48 = .ok (.return_, 1) := by decide +kernel
theorem d_sh_copyArray_0 : decode m_sh_copyArray.2.2.1 0 = .ok (.aload_n 0, 1) := by decide +kernel
theorem d_sh_copyArray_1 : decode m_sh_copyArray.2.2.1 1 = .ok (.getfield 9, 3) := by decide +kernel
theorem d_sh_copyArray_4 : decode m_sh_copyArray.2.2.1 4 = .ok (.iload_n 2, 1) := by decide +kernel
theorem d_sh_copyArray_5 : decode m_sh_copyArray.2.2.1 5 = .ok (.aload_n 0, 1) := by decide +kernel
theorem d_sh_copyArray_6 : decode m_sh_copyArray.2.2.1 6 = .ok (.getfield 9, 3) := by decide +kernel
theorem d_sh_copyArray_9 : decode m_sh_copyArray.2.2.1 9 = .ok (.iload_n 1, 1) := by decide +kernel
theorem d_sh_copyArray_10 : decode m_sh_copyArray.2.2.1 10 = .ok (.baload, 1) := by decide +kernel
theorem d_sh_copyArray_11 : decode m_sh_copyArray.2.2.1 11 = .ok (.bastore, 1) := by decide +kernel
theorem d_sh_copyArray_12 : decode m_sh_copyArray.2.2.1 12 = .ok (.aload_n 0, 1) := by decide +kernel
theorem d_sh_copyArray_13 : decode m_sh_copyArray.2.2.1 13 = .ok (.getfield 15, 3) := by decide +kernel
theorem d_sh_copyArray_16 : decode m_sh_copyArray.2.2.1 16 = .ok (.iload_n 2, 1) := by decide +kernel
theorem d_sh_copyArray_17 : decode m_sh_copyArray.2.2.1 17 = .ok (.aload_n 0, 1) := by decide +kernel
theorem d_sh_copyArray_18 : decode m_sh_copyArray.2.2.1 18 = .ok (.getfield 15, 3) := by decide +kernel
theorem d_sh_copyArray_21 : decode m_sh_copyArray.2.2.1 21 = .ok (.iload_n 1, 1) := by decide +kernel
theorem d_sh_copyArray_22 : decode m_sh_copyArray.2.2.1 22 = .ok (.iaload, 1) := by decide +kernel
theorem d_sh_copyArray_23 : decode m_sh_copyArray.2.2.1 23 = .ok (.iastore, 1) := by decide +kernel
theorem d_sh_copyArray_24 : decode m_sh_copyArray.2.2.1 24 = .ok (.aload_n 0, 1) := by decide +kernel
theorem d_sh_copyArray_25 : decode m_sh_copyArray.2.2.1 25 = .ok (.getfield 19, 3) := by decide +kernel
theorem d_sh_copyArray_28 : decode m_sh_copyArray.2.2.1 28 = .ok (.iload_n 2, 1) := by decide +kernel
theorem d_sh_copyArray_29 : decode m_sh_copyArray.2.2.1 29 = .ok (.aload_n 0, 1) := by decide +kernel
theorem d_sh_copyArray_30 : decode m_sh_copyArray.2.2.1 30 = .ok (.getfield 19, 3) := by decide +kernel
theorem d_sh_copyArray_33 : decode m_sh_copyArray.2.2.1 33 = .ok (.iload_n 1, 1) := by decide +kernel
theorem d_sh_copyArray_34 : decode m_sh_copyArray.2.2.1 34 = .ok (.iaload, 1) := by decide +kernel
theorem d_sh_copyArray_35 : decode m_sh_copyArray.2.2.1 35 = .ok (.iastore, 1) := by decide +kernel
theorem d_sh_copyArray_36 : decode m_sh_copyArray.2.2.1 36 = .ok (.aload_n 0, 1) := by decide +kernel
theorem d_sh_copyArray_37 : decode m_sh_copyArray.2.2.1 37 = .ok (.getfield 24, 3) := by decide +kernel
theorem d_sh_copyArray_40 : decode m_sh_copyArray.2.2.1 40 = .ok (.iload_n 1, 1) := by decide +kernel
theorem d_sh_copyArray_41 : decode m_sh_copyArray.2.2.1 41 = .ok (.aaload, 1) := by decide +kernel
theorem d_sh_copyArray_42 : decode m_sh_copyArray.2.2.1 42 = .ok (.iconst 0, 1) := by decide +kernel
theorem d_sh_copyArray_43 : decode m_sh_copyArray.2.2.1 43 = .ok (.aload_n 0, 1) := by decide +kernel
theorem d_sh_copyArray_44 : decode m_sh_copyArray.2.2.1 44 = .ok (.getfield 24, 3) := by decide +kernel
theorem d_sh_copyArray_47 : decode m_sh_copyArray.2.2.1 47 = .ok (.iload_n 2, 1) := by decide +kernel
theorem d_sh_copyArray_48 : decode m_sh_copyArray.2.2.1 48 = .ok (.aaload, 1) := by decide +kernel
theorem d_sh_copyArray_49 : decode m_sh_copyArray.2.2.1 49 = .ok (.iconst 0, 1) := by decide +kernel
theorem d_sh_copyArray_50 : decode m_sh_copyArray.2.2.1 50 = .ok (.bipush 10, 2) := by decide +kernel
theorem d_sh_copyArray_52 : decode m_sh_copyArray.2.2.1 52 = .ok (.invokestatic 27, 3) := by decide +kernel
theorem d_sh_copyArray_55 : decode m_sh_copyArray.2.2.1 55 = .ok (.return_, 1) := by decide +kernel
theorem d_sta_init_0 : decode m_sta_init.2.2.1 0 = .ok (.aload_n 0, 1) := by decide +kernel
theorem d_sta_init_1 : decode m_sta_init.2.2.1 1 = .ok (.invokespecial 3, 3) := by decide +kernel
theorem d_sta_init_4 : decode m_sta_init.2.2.1 4 = .ok (.aload_n 0, 1) := by decide +kernel
theorem d_sta_init_5 : decode m_sta_init.2.2.1 5 = .ok (.new 9, 3) := by decide +kernel
theorem d_sta_init_8 : decode m_sta_init.2.2.1 8 = .ok (.dup, 1) := by decide +kernel
theorem d_sta_init_9 : decode m_sta_init.2.2.1 9 = .ok (.invokespecial 11, 3) := by decide +kernel
theorem d_sta_init_12 : decode m_sta_init.2.2.1 12 = .ok (.putfield 12, 3) := by decide +kernel
theorem d_sta_init_15 : decode m_sta_init.2.2.1 15 = .ok (.aload_n 0, 1) := by decide +kernel
theorem d_sta_init_16 : decode m_sta_init.2.2.1 16 = .ok (.bipush 30, 2) := by decide +kernel
theorem d_sta_init_18 : decode m_sta_init.2.2.1 18 = .ok (.newarray .int, 2) := by decide +kernel
theorem d_sta_init_20 : decode m_sta_init.2.2.1 20 = .ok (.putfield 18, 3) := by decide +kernel
theorem d_sta_init_23 : decode m_sta_init.2.2.1 23 = .ok (.aload_n 0, 1) := by decide +kernel
theorem d_sta_init_24 : decode m_sta_init.2.2.1 24 = .ok (.bipush 30, 2) := by decide +kernel
theorem d_sta_init_26 : decode m_sta_init.2.2.1 26 = .ok (.iconst 4, 1) := by decide +kernel
theorem d_sta_init_27 : decode m_sta_init.2.2.1 27 = .ok (.multianewarray 22 2, 4) := by decide +kernel
theorem d_sta_init_31 : decode m_sta_init.2.2.1 31 = .ok (.putfield 24, 3) := by decide +kernel
theorem d_sta_init_34 : decode m_sta_init.2.2.1 34 = .ok (.aload_n 0, 1) := by decide +kernel
theorem d_sta_init_35 : decode m_sta_init.2.2.1 35 = .ok (.new 27, 3) := by decide +kernel
theorem d_sta_init_38 : decode m_sta_init.2.2.1 38 = .ok (.dup, 1) := by decide +kernel
theorem d_sta_init_39 : decode m_sta_init.2.2.1 39 = .ok (.invokespecial 29, 3) := by decide +kernel
theorem d_sta_init_42 : decode m_sta_init.2.2.1 42 = .ok (.putfield 30, 3) := by decide +kernel
theorem d_sta_init_45 : decode m_sta_init.2.2.1 45 = .ok (.return_, 1) := by decide +kernel
theorem d_sta_copyFrom_0 : decode m_sta_copyFrom.2.2.1 0 = .ok (.aload_n 0, 1) := by decide +kernel
theorem d_sta_copyFrom_1 : decode m_sta_copyFrom.2.2.1 1 = .ok (.getfield 12, 3) := by decide +kernel
theorem d_sta_copyFrom_4 : decode m_sta_copyFrom.2.2.1 4 = .ok (.aload_n 1, 1) := by decide +kernel
theorem d_sta_copyFrom_5 : decode m_sta_copyFrom.2.2.1 5 = .ok (.getfield 12, 3) := by decide +kernel
theorem d_sta_copyFrom_8 : decode m_sta_copyFrom.2.2.1 8 = .ok (.invokevirtual 34, 3) := by decide +kernel
theorem d_sta_copyFrom_11 : decode m_sta_copyFrom.2.2.1 11 = .ok (.aload_n 1, 1) := by decide +kernel
theorem d_sta_copyFrom_12 : decode m_sta_copyFrom.2.2.1 12 = .ok (.getfield 18, 3) := by decide +kernel
theorem d_sta_copyFrom_15 : decode m_sta_copyFrom.2.2.1 15 = .ok (.iconst 0, 1) := by decide +kernel
theorem d_sta_copyFrom_16 : decode m_sta_copyFrom.2.2.1 16 = .ok (.aload_n 0, 1) := by decide +kernel
theorem d_sta_copyFrom_17 : decode m_sta_copyFrom.2.2.1 17 = .ok (.getfield 18, 3) := by decide +kernel
theorem d_sta_copyFrom_20 : decode m_sta_copyFrom.2.2.1 20 = .ok (.iconst 0, 1) := by decide +kernel
theorem d_sta_copyFrom_21 : decode m_sta_copyFrom.2.2.1 21 = .ok (.bipush 30, 2) := by decide +kernel
theorem d_sta_copyFrom_23 : decode m_sta_copyFrom.2.2.1 23 = .ok (.invokestatic 38, 3) := by decide +kernel
theorem d_sta_copyFrom_26 : decode m_sta_copyFrom.2.2.1 26 = .ok (.iconst 0, 1) := by decide +kernel
theorem d_sta_copyFrom_27 : decode m_sta_copyFrom.2.2.1 27 = .ok (.istore_n 2, 1) := by decide +kernel
theorem d_sta_copyFrom_28 : decode m_sta_copyFrom.2.2.1 28 = .ok (.iload_n 2, 1) := by decide +kernel
theorem d_sta_copyFrom_29 : decode m_sta_copyFrom.2.2.1 29 = .ok (.bipush 30, 2) := by decide +kernel
theorem d_sta_copyFrom_31 : decode m_sta_copyFrom.2.2.1 31 = .ok (.if_icmp .ge 27, 3) := by decide +kernel
theorem d_sta_copyFrom_34 : decode m_sta_copyFrom.2.2.1 34 = .ok (.aload_n 1, 1) := by decide +kernel
theorem d_sta_copyFrom_35 : decode m_sta_copyFrom.2.2.1 35 = .ok (.getfield 24, 3) := by decide +kernel
theorem d_sta_copyFrom_38 : decode m_sta_copyFrom.2.2.1 38 = .ok (.iload_n 2, 1) := by decide +kernel
theorem d_sta_copyFrom_39 : decode m_sta_copyFrom.2.2.1 39 = .ok (.aaload, 1) := by decide +kernel
theorem d_sta_copyFrom_40 : decode m_sta_copyFrom.2.2.1 40 = .ok (.iconst 0, 1) := by decide +kernel
theorem d_sta_copyFrom_41 : decode m_sta_copyFrom.2.2.1 41 = .ok (.aload_n 0, 1) := by decide +kernel
theorem d_sta_copyFrom_42 : decode m_sta_copyFrom.2.2.1 42 = .ok (.getfield 24, 3) := by decide +kernel
theorem d_sta_copyFrom_45 : decode m_sta_copyFrom.2.2.1 45 = .ok (.iload_n 2, 1) := by decide +kernel
theorem d_sta_copyFrom_46 : decode m_sta_copyFrom.2.2.1 46 = .ok (.aaload, 1) := by decide +kernel
theorem d_sta_copyFrom_47 : decode m_sta_copyFrom.2.2.1 47 = .ok (.iconst 0, 1) := by decide +kernel
theorem d_sta_copyFrom_48 : decode m_sta_copyFrom.2.2.1 48 = .ok (.iconst 4, 1) := by decide +kernel
theorem d_sta_copyFrom_49 : decode m_sta_copyFrom.2.2.1 49 = .ok (.invokestatic 38, 3) := by decide +kernel
theorem d_sta_copyFrom_52 : decode m_sta_copyFrom.2.2.1 52 = .ok (.iinc 2 1, 3) := by decide +kernel
theorem d_sta_copyFrom_55 : decode m_sta_copyFrom.2.2.1 55 = .ok (.goto (-27), 3) := by decide +kernel
theorem d_sta_copyFrom_58 : decode m_sta_copyFrom.2.2.1 58 = .ok (.aload_n 0, 1) := by decide +kernel
theorem d_sta_copyFrom_59 : decode m_sta_copyFrom.2.2.1 59 = .ok (.getfield 30, 3) := by decide +kernel
theorem d_sta_copyFrom_62 : decode m_sta_copyFrom.2.2.1 62 = .ok (.aload_n 1, 1) := by decide +kernel
theorem d_sta_copyFrom_63 : decode m_sta_copyFrom.2.2.1 63 = .ok (.getfield 30, 3) := by decide +kernel
theorem d_sta_copyFrom_66 : decode m_sta_copyFrom.2.2.1 66 = .ok (.invokevirtual 44, 3) := by decide +kernel
theorem d_sta_copyFrom_69 : decode m_sta_copyFrom.2.2.1 69 = .ok (.return_, 1) := by decide +kernel
theorem d_sta_hasProvision_0 : decode m_sta_hasProvision.2.2.1 0 = .ok (.iload_n 1, 1) := by decide +kernel
theorem d_sta_hasProvision_1 : decode m_sta_hasProvision.2.2.1 1 = .ok (.ifCond .lt 24, 3) := by decide +kernel
theorem d_sta_hasProvision_4 : decode m_sta_hasProvision.2.2.1 4 = .ok (.iload_n 1, 1) := by decide +kernel
theorem d_sta_hasProvision_5 : decode m_sta_hasProvision.2.2.1 5 = .ok (.aload_n 0, 1) := by decide +kernel
theorem d_sta_hasProvision_6 : decode m_sta_hasProvision.2.2.1 6 = .ok (.getfield 12, 3) := by decide +kernel
theorem d_sta_hasProvision_9 : decode m_sta_hasProvision.2.2.1 9 = .ok (.getfield 47, 3) := by decide +kernel
theorem d_sta_hasProvision_12 : decode m_sta_hasProvision.2.2.1 12 = .ok (.if_icmp .ge 13, 3) := by decide +kernel
theorem d_sta_hasProvision_15 : decode m_sta_hasProvision.2.2.1 15 = .ok (.iload_n 1, 1) := by decide +kernel
theorem d_sta_hasProvision_16 : decode m_sta_hasProvision.2.2.1 16 = .ok (.bipush 30, 2) := by decide +kernel
theorem d_sta_hasProvision_18 : decode m_sta_hasProvision.2.2.1 18 = .ok (.if_icmp .ge 7, 3) := by decide +kernel
theorem d_sta_hasProvision_21 : decode m_sta_hasProvision.2.2.1 21 = .ok (.iconst 1, 1) := by decide +kernel
theorem d_sta_hasProvision_22 : decode m_sta_hasProvision.2.2.1 22 = .ok (.goto 4, 3) := by decide +kernel
theorem d_sta_hasProvision_25 : decode m_sta_hasProvision.2.2.1 25 = .ok (.iconst 0, 1) := by decide +kernel
theorem d_sta_hasProvision_26 : decode m_sta_hasProvision.2.2.1 26 = .ok (.ireturn, 1) := by decide +kernel
theorem d_sta_pathOf_0 : decode m_sta_pathOf.2.2.1 0 = .ok (.aload_n 0, 1) := by decide +kernel
theorem d_sta_pathOf_1 : decode m_sta_pathOf.2.2.1 1 = .ok (.getfield 12, 3) := by decide +kernel
theorem d_sta_pathOf_4 : decode m_sta_pathOf.2.2.1 4 = .ok (.iload_n 1, 1) := by decide +kernel
theorem d_sta_pathOf_5 : decode m_sta_pathOf.2.2.1 5 = .ok (.invokevirtual 51, 3) := by decide +kernel
theorem d_sta_pathOf_8 : decode m_sta_pathOf.2.2.1 8 = .ok (.istore_n 2, 1) := by decide +kernel
theorem d_sta_pathOf_9 : decode m_sta_pathOf.2.2.1 9 = .ok (.iload_n 2, 1) := by decide +kernel
theorem d_sta_pathOf_10 : decode m_sta_pathOf.2.2.1 10 = .ok (.ifCond .ge 7, 3) := by decide +kernel
theorem d_sta_pathOf_13 : decode m_sta_pathOf.2.2.1 13 = .ok (.lconst 0, 1) := by decide +kernel
theorem d_sta_pathOf_14 : decode m_sta_pathOf.2.2.1 14 = .ok (.goto 12, 3) := by decide +kernel
theorem d_sta_pathOf_17 : decode m_sta_pathOf.2.2.1 17 = .ok (.aload_n 0, 1) := by decide +kernel
theorem d_sta_pathOf_18 : decode m_sta_pathOf.2.2.1 18 = .ok (.getfield 12, 3) := by decide +kernel
theorem d_sta_pathOf_21 : decode m_sta_pathOf.2.2.1 21 = .ok (.getfield 57, 3) := by decide +kernel
theorem d_sta_pathOf_24 : decode m_sta_pathOf.2.2.1 24 = .ok (.iload_n 2, 1) := by decide +kernel
theorem d_sta_pathOf_25 : decode m_sta_pathOf.2.2.1 25 = .ok (.laload, 1) := by decide +kernel
theorem d_sta_pathOf_26 : decode m_sta_pathOf.2.2.1 26 = .ok (.lreturn, 1) := by decide +kernel
theorem d_sta_referenceCountOf_0 : decode m_sta_referenceCountOf.2.2.1 0 = .ok (.aload_n 0, 1) := by decide +kernel
theorem d_sta_referenceCountOf_1 : decode m_sta_referenceCountOf.2.2.1 1 = .ok (.iload_n 1, 1) := by decide +kernel
theorem d_sta_referenceCountOf_2 : decode m_sta_referenceCountOf.2.2.1 2 = .ok (.invokevirtual 61, 3) := by decide +kernel
theorem d_sta_referenceCountOf_5 : decode m_sta_referenceCountOf.2.2.1 5 = .ok (.ifCond .eq 12, 3) := by decide +kernel
theorem d_sta_referenceCountOf_8 : decode m_sta_referenceCountOf.2.2.1 8 = .ok (.aload_n 0, 1) := by decide +kernel
theorem d_sta_referenceCountOf_9 : decode m_sta_referenceCountOf.2.2.1 9 = .ok (.getfield 18, 3) := by decide +kernel
theorem d_sta_referenceCountOf_12 : decode m_sta_referenceCountOf.2.2.1 12 = .ok (.iload_n 1, 1) := by decide +kernel
theorem d_sta_referenceCountOf_13 : decode m_sta_referenceCountOf.2.2.1 13 = .ok (.iaload, 1) := by decide +kernel
theorem d_sta_referenceCountOf_14 : decode m_sta_referenceCountOf.2.2.1 14 = .ok (.goto 4, 3) := by decide +kernel
theorem d_sta_referenceCountOf_17 : decode m_sta_referenceCountOf.2.2.1 17 = .ok (.iconst 0, 1) := by decide +kernel
theorem d_sta_referenceCountOf_18 : decode m_sta_referenceCountOf.2.2.1 18 = .ok (.ireturn, 1) := by decide +kernel
theorem d_sta_createProvision_0 : decode m_sta_createProvision.2.2.1 0 = .ok (.aload_n 0, 1) := by decide +kernel
theorem d_sta_createProvision_1 : decode m_sta_createProvision.2.2.1 1 = .ok (.getfield 12, 3) := by decide +kernel
theorem d_sta_createProvision_4 : decode m_sta_createProvision.2.2.1 4 = .ok (.getfield 47, 3) := by decide +kernel
theorem d_sta_createProvision_7 : decode m_sta_createProvision.2.2.1 7 = .ok (.istore 4, 2) := by decide +kernel
theorem d_sta_createProvision_9 : decode m_sta_createProvision.2.2.1 9 = .ok (.iload 4, 2) := by decide +kernel
theorem d_sta_createProvision_11 : decode m_sta_createProvision.2.2.1 11 = .ok (.bipush 30, 2) := by decide +kernel
theorem d_sta_createProvision_13 : decode m_sta_createProvision.2.2.1 13 = .ok (.if_icmp .lt 6, 3) := by decide +kernel
theorem d_sta_createProvision_16 : decode m_sta_createProvision.2.2.1 16 = .ok (.bipush (-6), 2) := by decide +kernel
theorem d_sta_createProvision_18 : decode m_sta_createProvision.2.2.1 18 = .ok (.ireturn, 1) := by decide +kernel
theorem d_sta_createProvision_19 : decode m_sta_createProvision.2.2.1 19 = .ok (.aload_n 0, 1) := by decide +kernel
theorem d_sta_createProvision_20 : decode m_sta_createProvision.2.2.1 20 = .ok (.getfield 18, 3) := by decide +kernel
theorem d_sta_createProvision_23 : decode m_sta_createProvision.2.2.1 23 = .ok (.iload 4, 2) := by decide +kernel
theorem d_sta_createProvision_25 : decode m_sta_createProvision.2.2.1 25 = .ok (.iconst 0, 1) := by decide +kernel
theorem d_sta_createProvision_26 : decode m_sta_createProvision.2.2.1 26 = .ok (.iastore, 1) := by decide +kernel
theorem d_sta_createProvision_27 : decode m_sta_createProvision.2.2.1 27 = .ok (.aload_n 0, 1) := by decide +kernel
theorem d_sta_createProvision_28 : decode m_sta_createProvision.2.2.1 28 = .ok (.getfield 12, 3) := by decide +kernel
theorem d_sta_createProvision_31 : decode m_sta_createProvision.2.2.1 31 = .ok (.lload_n 1, 1) := by decide +kernel
theorem d_sta_createProvision_32 : decode m_sta_createProvision.2.2.1 32 = .ok (.iload_n 3, 1) := by decide +kernel
theorem d_sta_createProvision_33 : decode m_sta_createProvision.2.2.1 33 = .ok (.iload 4, 2) := by decide +kernel
theorem d_sta_createProvision_35 : decode m_sta_createProvision.2.2.1 35 = .ok (.bipush (-9), 2) := by decide +kernel
theorem d_sta_createProvision_37 : decode m_sta_createProvision.2.2.1 37 = .ok (.invokevirtual 65, 3) := by decide +kernel
theorem d_sta_createProvision_40 : decode m_sta_createProvision.2.2.1 40 = .ok (.aload_n 0, 1) := by decide +kernel
theorem d_sta_createProvision_41 : decode m_sta_createProvision.2.2.1 41 = .ok (.getfield 12, 3) := by decide +kernel
theorem d_sta_createProvision_44 : decode m_sta_createProvision.2.2.1 44 = .ok (.invokevirtual 69, 3) := by decide +kernel
theorem d_sta_createProvision_47 : decode m_sta_createProvision.2.2.1 47 = .ok (.iload 4, 2) := by decide +kernel
theorem d_sta_createProvision_49 : decode m_sta_createProvision.2.2.1 49 = .ok (.ireturn, 1) := by decide +kernel
theorem d_ver_init_0 : decode m_ver_init.2.2.1 0 = .ok (.aload_n 0, 1) := by decide +kernel
theorem d_ver_init_1 : decode m_ver_init.2.2.1 1 = .ok (.invokespecial 3, 3) := by decide +kernel
theorem d_ver_init_4 : decode m_ver_init.2.2.1 4 = .ok (.aload_n 0, 1) := by decide +kernel
theorem d_ver_init_5 : decode m_ver_init.2.2.1 5 = .ok (.new 9, 3) := by decide +kernel
theorem d_ver_init_8 : decode m_ver_init.2.2.1 8 = .ok (.dup, 1) := by decide +kernel
theorem d_ver_init_9 : decode m_ver_init.2.2.1 9 = .ok (.invokespecial 11, 3) := by decide +kernel
theorem d_ver_init_12 : decode m_ver_init.2.2.1 12 = .ok (.putfield 12, 3) := by decide +kernel
theorem d_ver_init_15 : decode m_ver_init.2.2.1 15 = .ok (.aload_n 0, 1) := by decide +kernel
theorem d_ver_init_16 : decode m_ver_init.2.2.1 16 = .ok (.bipush 120, 2) := by decide +kernel
theorem d_ver_init_18 : decode m_ver_init.2.2.1 18 = .ok (.newarray .int, 2) := by decide +kernel
theorem d_ver_init_20 : decode m_ver_init.2.2.1 20 = .ok (.putfield 18, 3) := by decide +kernel
theorem d_ver_init_23 : decode m_ver_init.2.2.1 23 = .ok (.aload_n 0, 1) := by decide +kernel
theorem d_ver_init_24 : decode m_ver_init.2.2.1 24 = .ok (.bipush 120, 2) := by decide +kernel
theorem d_ver_init_26 : decode m_ver_init.2.2.1 26 = .ok (.newarray .int, 2) := by decide +kernel
theorem d_ver_init_28 : decode m_ver_init.2.2.1 28 = .ok (.putfield 22, 3) := by decide +kernel
theorem d_ver_init_31 : decode m_ver_init.2.2.1 31 = .ok (.aload_n 0, 1) := by decide +kernel
theorem d_ver_init_32 : decode m_ver_init.2.2.1 32 = .ok (.bipush 120, 2) := by decide +kernel
theorem d_ver_init_34 : decode m_ver_init.2.2.1 34 = .ok (.newarray .int, 2) := by decide +kernel
theorem d_ver_init_36 : decode m_ver_init.2.2.1 36 = .ok (.putfield 25, 3) := by decide +kernel
theorem d_ver_init_39 : decode m_ver_init.2.2.1 39 = .ok (.return_, 1) := by decide +kernel
theorem d_ver_compute_0 : decode m_ver_compute.2.2.1 0 = .ok (.iload_n 2, 1) := by decide +kernel
theorem d_ver_compute_1 : decode m_ver_compute.2.2.1 1 = .ok (.iconst (-1), 1) := by decide +kernel
theorem d_ver_compute_2 : decode m_ver_compute.2.2.1 2 = .ok (.if_icmp .lt 10, 3) := by decide +kernel
theorem d_ver_compute_5 : decode m_ver_compute.2.2.1 5 = .ok (.iload_n 2, 1) := by decide +kernel
theorem d_ver_compute_6 : decode m_ver_compute.2.2.1 6 = .ok (.sipush 9999, 3) := by decide +kernel
theorem d_ver_compute_9 : decode m_ver_compute.2.2.1 9 = .ok (.if_icmp .le 5, 3) := by decide +kernel
theorem d_ver_compute_12 : decode m_ver_compute.2.2.1 12 = .ok (.iconst 0, 1) := by decide +kernel
theorem d_ver_compute_13 : decode m_ver_compute.2.2.1 13 = .ok (.ireturn, 1) := by decide +kernel
theorem d_ver_compute_14 : decode m_ver_compute.2.2.1 14 = .ok (.aload_n 0, 1) := by decide +kernel
theorem d_ver_compute_15 : decode m_ver_compute.2.2.1 15 = .ok (.aload_n 1, 1) := by decide +kernel
theorem d_ver_compute_16 : decode m_ver_compute.2.2.1 16 = .ok (.invokevirtual 28, 3) := by decide +kernel
theorem d_ver_compute_19 : decode m_ver_compute.2.2.1 19 = .ok (.aload_n 1, 1) := by decide +kernel
theorem d_ver_compute_20 : decode m_ver_compute.2.2.1 20 = .ok (.getfield 32, 3) := by decide +kernel
theorem d_ver_compute_23 : decode m_ver_compute.2.2.1 23 = .ok (.astore_n 3, 1) := by decide +kernel
theorem d_ver_compute_24 : decode m_ver_compute.2.2.1 24 = .ok (.aload_n 3, 1) := by decide +kernel
theorem d_ver_compute_25 : decode m_ver_compute.2.2.1 25 = .ok (.iconst (-1), 1) := by decide +kernel
theorem d_ver_compute_26 : decode m_ver_compute.2.2.1 26 = .ok (.invokevirtual 38, 3) := by decide +kernel
theorem d_ver_compute_29 : decode m_ver_compute.2.2.1 29 = .ok (.istore 4, 2) := by decide +kernel
theorem d_ver_compute_31 : decode m_ver_compute.2.2.1 31 = .ok (.iconst 0, 1) := by decide +kernel
theorem d_ver_compute_32 : decode m_ver_compute.2.2.1 32 = .ok (.istore 5, 2) := by decide +kernel
theorem d_ver_compute_34 : decode m_ver_compute.2.2.1 34 = .ok (.iload 5, 2) := by decide +kernel
theorem d_ver_compute_36 : decode m_ver_compute.2.2.1 36 = .ok (.bipush 8, 2) := by decide +kernel
theorem d_ver_compute_38 : decode m_ver_compute.2.2.1 38 = .ok (.if_icmp .ge 40, 3) := by decide +kernel
theorem d_ver_compute_41 : decode m_ver_compute.2.2.1 41 = .ok (.iload 4, 2) := by decide +kernel
theorem d_ver_compute_43 : decode m_ver_compute.2.2.1 43 = .ok (.ifCond .lt 35, 3) := by decide +kernel
theorem d_ver_compute_46 : decode m_ver_compute.2.2.1 46 = .ok (.aload_n 3, 1) := by decide +kernel
theorem d_ver_compute_47 : decode m_ver_compute.2.2.1 47 = .ok (.getfield 44, 3) := by decide +kernel
theorem d_ver_compute_50 : decode m_ver_compute.2.2.1 50 = .ok (.iload 4, 2) := by decide +kernel
theorem d_ver_compute_52 : decode m_ver_compute.2.2.1 52 = .ok (.iaload, 1) := by decide +kernel
theorem d_ver_compute_53 : decode m_ver_compute.2.2.1 53 = .ok (.iload_n 2, 1) := by decide +kernel
theorem d_ver_compute_54 : decode m_ver_compute.2.2.1 54 = .ok (.if_icmp .gt 24, 3) := by decide +kernel
theorem d_ver_compute_57 : decode m_ver_compute.2.2.1 57 = .ok (.aload_n 0, 1) := by decide +kernel
theorem d_ver_compute_58 : decode m_ver_compute.2.2.1 58 = .ok (.aload_n 3, 1) := by decide +kernel
theorem d_ver_compute_59 : decode m_ver_compute.2.2.1 59 = .ok (.iload 4, 2) := by decide +kernel
theorem d_ver_compute_61 : decode m_ver_compute.2.2.1 61 = .ok (.invokevirtual 47, 3) := by decide +kernel
theorem d_ver_compute_64 : decode m_ver_compute.2.2.1 64 = .ok (.aload_n 3, 1) := by decide +kernel
theorem d_ver_compute_65 : decode m_ver_compute.2.2.1 65 = .ok (.iload 4, 2) := by decide +kernel
theorem d_ver_compute_67 : decode m_ver_compute.2.2.1 67 = .ok (.invokevirtual 38, 3) := by decide +kernel
theorem d_ver_compute_70 : decode m_ver_compute.2.2.1 70 = .ok (.istore 4, 2) := by decide +kernel
theorem d_ver_compute_72 : decode m_ver_compute.2.2.1 72 = .ok (.iinc 5 1, 3) := by decide +kernel
theorem d_ver_compute_75 : decode m_ver_compute.2.2.1 75 = .ok (.goto (-41), 3) := by decide +kernel
theorem d_ver_compute_78 : decode m_ver_compute.2.2.1 78 = .ok (.iconst 1, 1) := by decide +kernel
theorem d_ver_compute_79 : decode m_ver_compute.2.2.1 79 = .ok (.ireturn, 1) := by decide +kernel
theorem d_ver_computeFromTwo_0 : decode m_ver_computeFromTwo.2.2.1 0 = .ok (.aload_n 0, 1) := by decide +kernel
theorem d_ver_computeFromTwo_1 : decode m_ver_computeFromTwo.2.2.1 1 = .ok (.aload_n 1, 1) := by decide +kernel
theorem d_ver_computeFromTwo_2 : decode m_ver_computeFromTwo.2.2.1 2 = .ok (.invokevirtual 28, 3) := by decide +kernel
theorem d_ver_computeFromTwo_5 : decode m_ver_computeFromTwo.2.2.1 5 = .ok (.aload_n 0, 1) := by decide +kernel
theorem d_ver_computeFromTwo_6 : decode m_ver_computeFromTwo.2.2.1 6 = .ok (.aload_n 1, 1) := by decide +kernel
theorem d_ver_computeFromTwo_7 : decode m_ver_computeFromTwo.2.2.1 7 = .ok (.getfield 32, 3) := by decide +kernel
theorem d_ver_computeFromTwo_10 : decode m_ver_computeFromTwo.2.2.1 10 = .ok (.iload_n 2, 1) := by decide +kernel
theorem d_ver_computeFromTwo_11 : decode m_ver_computeFromTwo.2.2.1 11 = .ok (.invokevirtual 47, 3) := by decide +kernel
theorem d_ver_computeFromTwo_14 : decode m_ver_computeFromTwo.2.2.1 14 = .ok (.aload_n 0, 1) := by decide +kernel
theorem d_ver_computeFromTwo_15 : decode m_ver_computeFromTwo.2.2.1 15 = .ok (.aload_n 1, 1) := by decide +kernel
theorem d_ver_computeFromTwo_16 : decode m_ver_computeFromTwo.2.2.1 16 = .ok (.getfield 32, 3) := by decide +kernel
theorem d_ver_computeFromTwo_19 : decode m_ver_computeFromTwo.2.2.1 19 = .ok (.iload_n 3, 1) := by decide +kernel
theorem d_ver_computeFromTwo_20 : decode m_ver_computeFromTwo.2.2.1 20 = .ok (.invokevirtual 47, 3) := by decide +kernel
theorem d_ver_computeFromTwo_23 : decode m_ver_computeFromTwo.2.2.1 23 = .ok (.return_, 1) := by decide +kernel
theorem d_ver_start_0 : decode m_ver_start.2.2.1 0 = .ok (.aload_n 0, 1) := by decide +kernel
theorem d_ver_start_1 : decode m_ver_start.2.2.1 1 = .ok (.getfield 12, 3) := by decide +kernel
theorem d_ver_start_4 : decode m_ver_start.2.2.1 4 = .ok (.aload_n 1, 1) := by decide +kernel
theorem d_ver_start_5 : decode m_ver_start.2.2.1 5 = .ok (.getfield 51, 3) := by decide +kernel
theorem d_ver_start_8 : decode m_ver_start.2.2.1 8 = .ok (.invokevirtual 54, 3) := by decide +kernel
theorem d_ver_start_11 : decode m_ver_start.2.2.1 11 = .ok (.aload_n 0, 1) := by decide +kernel
theorem d_ver_start_12 : decode m_ver_start.2.2.1 12 = .ok (.iconst 0, 1) := by decide +kernel
theorem d_ver_start_13 : decode m_ver_start.2.2.1 13 = .ok (.putfield 58, 3) := by decide +kernel
theorem d_ver_start_16 : decode m_ver_start.2.2.1 16 = .ok (.return_, 1) := by decide +kernel
theorem d_ver_apply_0 : decode m_ver_apply.2.2.1 0 = .ok (.aload_n 1, 1) := by decide +kernel
theorem d_ver_apply_1 : decode m_ver_apply.2.2.1 1 = .ok (.getfield 62, 3) := by decide +kernel
theorem d_ver_apply_4 : decode m_ver_apply.2.2.1 4 = .ok (.iload_n 2, 1) := by decide +kernel
theorem d_ver_apply_5 : decode m_ver_apply.2.2.1 5 = .ok (.iaload, 1) := by decide +kernel
theorem d_ver_apply_6 : decode m_ver_apply.2.2.1 6 = .ok (.bipush 15, 2) := by decide +kernel
theorem d_ver_apply_8 : decode m_ver_apply.2.2.1 8 = .ok (.invokestatic 65, 3) := by decide +kernel
theorem d_ver_apply_11 : decode m_ver_apply.2.2.1 11 = .ok (.istore_n 3, 1) := by decide +kernel
theorem d_ver_apply_12 : decode m_ver_apply.2.2.1 12 = .ok (.iconst 0, 1) := by decide +kernel
theorem d_ver_apply_13 : decode m_ver_apply.2.2.1 13 = .ok (.istore 4, 2) := by decide +kernel
theorem d_ver_apply_15 : decode m_ver_apply.2.2.1 15 = .ok (.iload 4, 2) := by decide +kernel
theorem d_ver_apply_17 : decode m_ver_apply.2.2.1 17 = .ok (.iload_n 3, 1) := by decide +kernel
theorem d_ver_apply_18 : decode m_ver_apply.2.2.1 18 = .ok (.if_icmp .ge 56, 3) := by decide +kernel
theorem d_ver_apply_21 : decode m_ver_apply.2.2.1 21 = .ok (.iload_n 2, 1) := by decide +kernel
theorem d_ver_apply_22 : decode m_ver_apply.2.2.1 22 = .ok (.bipush 15, 2) := by decide +kernel
theorem d_ver_apply_24 : decode m_ver_apply.2.2.1 24 = .ok (.imul, 1) := by decide +kernel
theorem d_ver_apply_25 : decode m_ver_apply.2.2.1 25 = .ok (.iload 4, 2) := by decide +kernel
theorem d_ver_apply_27 : decode m_ver_apply.2.2.1 27 = .ok (.iadd, 1) := by decide +kernel
theorem d_ver_apply_28 : decode m_ver_apply.2.2.1 28 = .ok (.istore 5, 2) := by decide +kernel
theorem d_ver_apply_30 : decode m_ver_apply.2.2.1 30 = .ok (.aload_n 0, 1) := by decide +kernel
theorem d_ver_apply_31 : decode m_ver_apply.2.2.1 31 = .ok (.aload_n 1, 1) := by decide +kernel
theorem d_ver_apply_32 : decode m_ver_apply.2.2.1 32 = .ok (.iload 5, 2) := by decide +kernel
theorem d_ver_apply_34 : decode m_ver_apply.2.2.1 34 = .ok (.invokevirtual 71, 3) := by decide +kernel
theorem d_ver_apply_37 : decode m_ver_apply.2.2.1 37 = .ok (.istore 6, 2) := by decide +kernel
theorem d_ver_apply_39 : decode m_ver_apply.2.2.1 39 = .ok (.iload 6, 2) := by decide +kernel
theorem d_ver_apply_41 : decode m_ver_apply.2.2.1 41 = .ok (.ifCond .ne 13, 3) := by decide +kernel
theorem d_ver_apply_44 : decode m_ver_apply.2.2.1 44 = .ok (.aload_n 0, 1) := by decide +kernel
theorem d_ver_apply_45 : decode m_ver_apply.2.2.1 45 = .ok (.aload_n 1, 1) := by decide +kernel
theorem d_ver_apply_46 : decode m_ver_apply.2.2.1 46 = .ok (.iload 5, 2) := by decide +kernel
theorem d_ver_apply_48 : decode m_ver_apply.2.2.1 48 = .ok (.iload_n 2, 1) := by decide +kernel
theorem d_ver_apply_49 : decode m_ver_apply.2.2.1 49 = .ok (.invokevirtual 75, 3) := by decide +kernel
theorem d_ver_apply_52 : decode m_ver_apply.2.2.1 52 = .ok (.istore 6, 2) := by decide +kernel
theorem d_ver_apply_54 : decode m_ver_apply.2.2.1 54 = .ok (.iload 6, 2) := by decide +kernel
theorem d_ver_apply_56 : decode m_ver_apply.2.2.1 56 = .ok (.ifCond .eq 12, 3) := by decide +kernel
theorem d_ver_apply_59 : decode m_ver_apply.2.2.1 59 = .ok (.aload_n 0, 1) := by decide +kernel
theorem d_ver_apply_60 : decode m_ver_apply.2.2.1 60 = .ok (.iload_n 2, 1) := by decide +kernel
theorem d_ver_apply_61 : decode m_ver_apply.2.2.1 61 = .ok (.iload 4, 2) := by decide +kernel
theorem d_ver_apply_63 : decode m_ver_apply.2.2.1 63 = .ok (.iload 6, 2) := by decide +kernel
theorem d_ver_apply_65 : decode m_ver_apply.2.2.1 65 = .ok (.invokevirtual 79, 3) := by decide +kernel
theorem d_ver_apply_68 : decode m_ver_apply.2.2.1 68 = .ok (.iinc 4 1, 3) := by decide +kernel
theorem d_ver_apply_71 : decode m_ver_apply.2.2.1 71 = .ok (.goto (-56), 3) := by decide +kernel
theorem d_ver_apply_74 : decode m_ver_apply.2.2.1 74 = .ok (.return_, 1) := by decide +kernel
theorem d_ver_hasConflict_0 : decode m_ver_hasConflict.2.2.1 0 = .ok (.iload_n 1, 1) := by decide +kernel
theorem d_ver_hasConflict_1 : decode m_ver_hasConflict.2.2.1 1 = .ok (.ifCond .lt 15, 3) := by decide +kernel
theorem d_ver_hasConflict_4 : decode m_ver_hasConflict.2.2.1 4 = .ok (.iload_n 1, 1) := by decide +kernel
theorem d_ver_hasConflict_5 : decode m_ver_hasConflict.2.2.1 5 = .ok (.aload_n 0, 1) := by decide +kernel
theorem d_ver_hasConflict_6 : decode m_ver_hasConflict.2.2.1 6 = .ok (.getfield 58, 3) := by decide +kernel
theorem d_ver_hasConflict_9 : decode m_ver_hasConflict.2.2.1 9 = .ok (.if_icmp .ge 7, 3) := by decide +kernel
theorem d_ver_hasConflict_12 : decode m_ver_hasConflict.2.2.1 12 = .ok (.iconst 1, 1) := by decide +kernel
theorem d_ver_hasConflict_13 : decode m_ver_hasConflict.2.2.1 13 = .ok (.goto 4, 3) := by decide +kernel
theorem d_ver_hasConflict_16 : decode m_ver_hasConflict.2.2.1 16 = .ok (.iconst 0, 1) := by decide +kernel
theorem d_ver_hasConflict_17 : decode m_ver_hasConflict.2.2.1 17 = .ok (.ireturn, 1) := by decide +kernel
theorem d_ver_keepConflict_0 : decode m_ver_keepConflict.2.2.1 0 = .ok (.aload_n 0, 1) := by decide +kernel
theorem d_ver_keepConflict_1 : decode m_ver_keepConflict.2.2.1 1 = .ok (.getfield 58, 3) := by decide +kernel
theorem d_ver_keepConflict_4 : decode m_ver_keepConflict.2.2.1 4 = .ok (.bipush 120, 2) := by decide +kernel
theorem d_ver_keepConflict_6 : decode m_ver_keepConflict.2.2.1 6 = .ok (.if_icmp .lt 4, 3) := by decide +kernel
theorem d_ver_keepConflict_9 : decode m_ver_keepConflict.2.2.1 9 = .ok (.return_, 1) := by decide +kernel
theorem d_ver_keepConflict_10 : decode m_ver_keepConflict.2.2.1 10 = .ok (.aload_n 0, 1) := by decide +kernel
theorem d_ver_keepConflict_11 : decode m_ver_keepConflict.2.2.1 11 = .ok (.getfield 18, 3) := by decide +kernel
theorem d_ver_keepConflict_14 : decode m_ver_keepConflict.2.2.1 14 = .ok (.aload_n 0, 1) := by decide +kernel
theorem d_ver_keepConflict_15 : decode m_ver_keepConflict.2.2.1 15 = .ok (.getfield 58, 3) := by decide +kernel
theorem d_ver_keepConflict_18 : decode m_ver_keepConflict.2.2.1 18 = .ok (.iload_n 1, 1) := by decide +kernel
theorem d_ver_keepConflict_19 : decode m_ver_keepConflict.2.2.1 19 = .ok (.iastore, 1) := by decide +kernel
theorem d_ver_keepConflict_20 : decode m_ver_keepConflict.2.2.1 20 = .ok (.aload_n 0, 1) := by decide +kernel
theorem d_ver_keepConflict_21 : decode m_ver_keepConflict.2.2.1 21 = .ok (.getfield 22, 3) := by decide +kernel
theorem d_ver_keepConflict_24 : decode m_ver_keepConflict.2.2.1 24 = .ok (.aload_n 0, 1) := by decide +kernel
theorem d_ver_keepConflict_25 : decode m_ver_keepConflict.2.2.1 25 = .ok (.getfield 58, 3) := by decide +kernel
theorem d_ver_keepConflict_28 : decode m_ver_keepConflict.2.2.1 28 = .ok (.iload_n 2, 1) := by decide +kernel
theorem d_ver_keepConflict_29 : decode m_ver_keepConflict.2.2.1 29 = .ok (.iastore, 1) := by decide +kernel
theorem d_ver_keepConflict_30 : decode m_ver_keepConflict.2.2.1 30 = .ok (.aload_n 0, 1) := by decide +kernel
theorem d_ver_keepConflict_31 : decode m_ver_keepConflict.2.2.1 31 = .ok (.getfield 25, 3) := by decide +kernel
theorem d_ver_keepConflict_34 : decode m_ver_keepConflict.2.2.1 34 = .ok (.aload_n 0, 1) := by decide +kernel
theorem d_ver_keepConflict_35 : decode m_ver_keepConflict.2.2.1 35 = .ok (.getfield 58, 3) := by decide +kernel
theorem d_ver_keepConflict_38 : decode m_ver_keepConflict.2.2.1 38 = .ok (.iload_n 3, 1) := by decide +kernel
theorem d_ver_keepConflict_39 : decode m_ver_keepConflict.2.2.1 39 = .ok (.iastore, 1) := by decide +kernel
theorem d_ver_keepConflict_40 : decode m_ver_keepConflict.2.2.1 40 = .ok (.aload_n 0, 1) := by decide +kernel
theorem d_ver_keepConflict_41 : decode m_ver_keepConflict.2.2.1 41 = .ok (.dup, 1) := by decide +kernel
theorem d_ver_keepConflict_42 : decode m_ver_keepConflict.2.2.1 42 = .ok (.getfield 58, 3) := by decide +kernel
theorem d_ver_keepConflict_45 : decode m_ver_keepConflict.2.2.1 45 = .ok (.iconst 1, 1) := by decide +kernel
theorem d_ver_keepConflict_46 : decode m_ver_keepConflict.2.2.1 46 = .ok (.iadd, 1) := by decide +kernel
theorem d_ver_keepConflict_47 : decode m_ver_keepConflict.2.2.1 47 = .ok (.putfield 58, 3) := by decide +kernel
theorem d_ver_keepConflict_50 : decode m_ver_keepConflict.2.2.1 50 = .ok (.return_, 1) := by decide +kernel
theorem d_ver_reasonAgainst_0 : decode m_ver_reasonAgainst.2.2.1 0 = .ok (.aload_n 1, 1) := by decide +kernel
theorem d_ver_reasonAgainst_1 : decode m_ver_reasonAgainst.2.2.1 1 = .ok (.getfield 83, 3) := by decide +kernel
theorem d_ver_reasonAgainst_4 : decode m_ver_reasonAgainst.2.2.1 4 = .ok (.iload_n 2, 1) := by decide +kernel
theorem d_ver_reasonAgainst_5 : decode m_ver_reasonAgainst.2.2.1 5 = .ok (.iaload, 1) := by decide +kernel
theorem d_ver_reasonAgainst_6 : decode m_ver_reasonAgainst.2.2.1 6 = .ok (.istore_n 3, 1) := by decide +kernel
theorem d_ver_reasonAgainst_7 : decode m_ver_reasonAgainst.2.2.1 7 = .ok (.aload_n 1, 1) := by decide +kernel
theorem d_ver_reasonAgainst_8 : decode m_ver_reasonAgainst.2.2.1 8 = .ok (.getfield 86, 3) := by decide +kernel
theorem d_ver_reasonAgainst_11 : decode m_ver_reasonAgainst.2.2.1 11 = .ok (.iload_n 2, 1) := by decide +kernel
theorem d_ver_reasonAgainst_12 : decode m_ver_reasonAgainst.2.2.1 12 = .ok (.laload, 1) := by decide +kernel
theorem d_ver_reasonAgainst_13 : decode m_ver_reasonAgainst.2.2.1 13 = .ok (.lstore 4, 2) := by decide +kernel
theorem d_ver_reasonAgainst_15 : decode m_ver_reasonAgainst.2.2.1 15 = .ok (.iload_n 3, 1) := by decide +kernel
theorem d_ver_reasonAgainst_16 : decode m_ver_reasonAgainst.2.2.1 16 = .ok (.iconst 4, 1) := by decide +kernel
theorem d_ver_reasonAgainst_17 : decode m_ver_reasonAgainst.2.2.1 17 = .ok (.if_icmp .ne 12, 3) := by decide +kernel
theorem d_ver_reasonAgainst_20 : decode m_ver_reasonAgainst.2.2.1 20 = .ok (.aload_n 1, 1) := by decide +kernel
theorem d_ver_reasonAgainst_21 : decode m_ver_reasonAgainst.2.2.1 21 = .ok (.getfield 90, 3) := by decide +kernel
theorem d_ver_reasonAgainst_24 : decode m_ver_reasonAgainst.2.2.1 24 = .ok (.iload_n 2, 1) := by decide +kernel
theorem d_ver_reasonAgainst_25 : decode m_ver_reasonAgainst.2.2.1 25 = .ok (.laload, 1) := by decide +kernel
theorem d_ver_reasonAgainst_26 : decode m_ver_reasonAgainst.2.2.1 26 = .ok (.goto 5, 3) := by decide +kernel
theorem d_ver_reasonAgainst_29 : decode m_ver_reasonAgainst.2.2.1 29 = .ok (.lload 4, 2) := by decide +kernel
theorem d_ver_reasonAgainst_31 : decode m_ver_reasonAgainst.2.2.1 31 = .ok (.lstore 6, 2) := by decide +kernel
theorem d_ver_reasonAgainst_33 : decode m_ver_reasonAgainst.2.2.1 33 = .ok (.aload_n 0, 1) := by decide +kernel
theorem d_ver_reasonAgainst_34 : decode m_ver_reasonAgainst.2.2.1 34 = .ok (.getfield 12, 3) := by decide +kernel
theorem d_ver_reasonAgainst_37 : decode m_ver_reasonAgainst.2.2.1 37 = .ok (.lload 4, 2) := by decide +kernel
theorem d_ver_reasonAgainst_39 : decode m_ver_reasonAgainst.2.2.1 39 = .ok (.invokevirtual 93, 3) := by decide +kernel
theorem d_ver_reasonAgainst_42 : decode m_ver_reasonAgainst.2.2.1 42 = .ok (.istore 8, 2) := by decide +kernel
theorem d_ver_reasonAgainst_44 : decode m_ver_reasonAgainst.2.2.1 44 = .ok (.aload_n 0, 1) := by decide +kernel
theorem d_ver_reasonAgainst_45 : decode m_ver_reasonAgainst.2.2.1 45 = .ok (.getfield 12, 3) := by decide +kernel
theorem d_ver_reasonAgainst_48 : decode m_ver_reasonAgainst.2.2.1 48 = .ok (.lload 6, 2) := by decide +kernel
theorem d_ver_reasonAgainst_50 : decode m_ver_reasonAgainst.2.2.1 50 = .ok (.invokevirtual 93, 3) := by decide +kernel
theorem d_ver_reasonAgainst_53 : decode m_ver_reasonAgainst.2.2.1 53 = .ok (.istore 9, 2) := by decide +kernel
theorem d_ver_reasonAgainst_55 : decode m_ver_reasonAgainst.2.2.1 55 = .ok (.iload 8, 2) := by decide +kernel
theorem d_ver_reasonAgainst_57 : decode m_ver_reasonAgainst.2.2.1 57 = .ok (.ifCond .lt 8, 3) := by decide +kernel
theorem d_ver_reasonAgainst_60 : decode m_ver_reasonAgainst.2.2.1 60 = .ok (.iload 9, 2) := by decide +kernel
theorem d_ver_reasonAgainst_62 : decode m_ver_reasonAgainst.2.2.1 62 = .ok (.ifCond .ge 5, 3) := by decide +kernel
theorem d_ver_reasonAgainst_65 : decode m_ver_reasonAgainst.2.2.1 65 = .ok (.iconst 1, 1) := by decide +kernel
theorem d_ver_reasonAgainst_66 : decode m_ver_reasonAgainst.2.2.1 66 = .ok (.ireturn, 1) := by decide +kernel
theorem d_ver_reasonAgainst_67 : decode m_ver_reasonAgainst.2.2.1 67 = .ok (.aload_n 0, 1) := by decide +kernel
theorem d_ver_reasonAgainst_68 : decode m_ver_reasonAgainst.2.2.1 68 = .ok (.getfield 12, 3) := by decide +kernel
theorem d_ver_reasonAgainst_71 : decode m_ver_reasonAgainst.2.2.1 71 = .ok (.getfield 97, 3) := by decide +kernel
theorem d_ver_reasonAgainst_74 : decode m_ver_reasonAgainst.2.2.1 74 = .ok (.iload 8, 2) := by decide +kernel
theorem d_ver_reasonAgainst_76 : decode m_ver_reasonAgainst.2.2.1 76 = .ok (.baload, 1) := by decide +kernel
theorem d_ver_reasonAgainst_77 : decode m_ver_reasonAgainst.2.2.1 77 = .ok (.ifCond .ne 16, 3) := by decide +kernel
theorem d_ver_reasonAgainst_80 : decode m_ver_reasonAgainst.2.2.1 80 = .ok (.aload_n 0, 1) := by decide +kernel
theorem d_ver_reasonAgainst_81 : decode m_ver_reasonAgainst.2.2.1 81 = .ok (.getfield 12, 3) := by decide +kernel
theorem d_ver_reasonAgainst_84 : decode m_ver_reasonAgainst.2.2.1 84 = .ok (.getfield 97, 3) := by decide +kernel
theorem d_ver_reasonAgainst_87 : decode m_ver_reasonAgainst.2.2.1 87 = .ok (.iload 9, 2) := by decide +kernel
theorem d_ver_reasonAgainst_89 : decode m_ver_reasonAgainst.2.2.1 89 = .ok (.baload, 1) := by decide +kernel
theorem d_ver_reasonAgainst_90 : decode m_ver_reasonAgainst.2.2.1 90 = .ok (.ifCond .eq 5, 3) := by decide +kernel
theorem d_ver_reasonAgainst_93 : decode m_ver_reasonAgainst.2.2.1 93 = .ok (.iconst 2, 1) := by decide +kernel
theorem d_ver_reasonAgainst_94 : decode m_ver_reasonAgainst.2.2.1 94 = .ok (.ireturn, 1) := by decide +kernel
theorem d_ver_reasonAgainst_95 : decode m_ver_reasonAgainst.2.2.1 95 = .ok (.lload 4, 2) := by decide +kernel
theorem d_ver_reasonAgainst_97 : decode m_ver_reasonAgainst.2.2.1 97 = .ok (.invokestatic 101, 3) := by decide +kernel
theorem d_ver_reasonAgainst_100 : decode m_ver_reasonAgainst.2.2.1 100 = .ok (.istore 10, 2) := by decide +kernel
theorem d_ver_reasonAgainst_102 : decode m_ver_reasonAgainst.2.2.1 102 = .ok (.iload_n 3, 1) := by decide +kernel
theorem d_ver_reasonAgainst_103 : decode m_ver_reasonAgainst.2.2.1 103 = .ok (.iconst 1, 1) := by decide +kernel
theorem d_ver_reasonAgainst_104 : decode m_ver_reasonAgainst.2.2.1 104 = .ok (.if_icmp .ne 11, 3) := by decide +kernel
theorem d_ver_reasonAgainst_107 : decode m_ver_reasonAgainst.2.2.1 107 = .ok (.iload 10, 2) := by decide +kernel
theorem d_ver_reasonAgainst_109 : decode m_ver_reasonAgainst.2.2.1 109 = .ok (.iconst 3, 1) := by decide +kernel
theorem d_ver_reasonAgainst_110 : decode m_ver_reasonAgainst.2.2.1 110 = .ok (.if_icmp .ne 5, 3) := by decide +kernel
theorem d_ver_reasonAgainst_113 : decode m_ver_reasonAgainst.2.2.1 113 = .ok (.iconst 3, 1) := by decide +kernel
theorem d_ver_reasonAgainst_114 : decode m_ver_reasonAgainst.2.2.1 114 = .ok (.ireturn, 1) := by decide +kernel
theorem d_ver_reasonAgainst_115 : decode m_ver_reasonAgainst.2.2.1 115 = .ok (.iload_n 3, 1) := by decide +kernel
theorem d_ver_reasonAgainst_116 : decode m_ver_reasonAgainst.2.2.1 116 = .ok (.iconst 4, 1) := by decide +kernel
theorem d_ver_reasonAgainst_117 : decode m_ver_reasonAgainst.2.2.1 117 = .ok (.if_icmp .ne 23, 3) := by decide +kernel
theorem d_ver_reasonAgainst_120 : decode m_ver_reasonAgainst.2.2.1 120 = .ok (.iload 10, 2) := by decide +kernel
theorem d_ver_reasonAgainst_122 : decode m_ver_reasonAgainst.2.2.1 122 = .ok (.lload 6, 2) := by decide +kernel
theorem d_ver_reasonAgainst_124 : decode m_ver_reasonAgainst.2.2.1 124 = .ok (.invokestatic 101, 3) := by decide +kernel
theorem d_ver_reasonAgainst_127 : decode m_ver_reasonAgainst.2.2.1 127 = .ok (.if_icmp .ne 11, 3) := by decide +kernel
theorem d_ver_reasonAgainst_130 : decode m_ver_reasonAgainst.2.2.1 130 = .ok (.lload 4, 2) := by decide +kernel
theorem d_ver_reasonAgainst_132 : decode m_ver_reasonAgainst.2.2.1 132 = .ok (.lload 6, 2) := by decide +kernel
theorem d_ver_reasonAgainst_134 : decode m_ver_reasonAgainst.2.2.1 134 = .ok (.lcmp, 1) := by decide +kernel
theorem d_ver_reasonAgainst_135 : decode m_ver_reasonAgainst.2.2.1 135 = .ok (.ifCond .ne 5, 3) := by decide +kernel
theorem d_ver_reasonAgainst_138 : decode m_ver_reasonAgainst.2.2.1 138 = .ok (.iconst 3, 1) := by decide +kernel
theorem d_ver_reasonAgainst_139 : decode m_ver_reasonAgainst.2.2.1 139 = .ok (.ireturn, 1) := by decide +kernel
theorem d_ver_reasonAgainst_140 : decode m_ver_reasonAgainst.2.2.1 140 = .ok (.iload_n 3, 1) := by decide +kernel
theorem d_ver_reasonAgainst_141 : decode m_ver_reasonAgainst.2.2.1 141 = .ok (.ifCond .eq 8, 3) := by decide +kernel
theorem d_ver_reasonAgainst_144 : decode m_ver_reasonAgainst.2.2.1 144 = .ok (.iload_n 3, 1) := by decide +kernel
theorem d_ver_reasonAgainst_145 : decode m_ver_reasonAgainst.2.2.1 145 = .ok (.iconst 1, 1) := by decide +kernel
theorem d_ver_reasonAgainst_146 : decode m_ver_reasonAgainst.2.2.1 146 = .ok (.if_icmp .ne 17, 3) := by decide +kernel
theorem d_ver_reasonAgainst_149 : decode m_ver_reasonAgainst.2.2.1 149 = .ok (.aload_n 0, 1) := by decide +kernel
theorem d_ver_reasonAgainst_150 : decode m_ver_reasonAgainst.2.2.1 150 = .ok (.getfield 12, 3) := by decide +kernel
theorem d_ver_reasonAgainst_153 : decode m_ver_reasonAgainst.2.2.1 153 = .ok (.getfield 106, 3) := by decide +kernel
theorem d_ver_reasonAgainst_156 : decode m_ver_reasonAgainst.2.2.1 156 = .ok (.bipush 60, 2) := by decide +kernel
theorem d_ver_reasonAgainst_158 : decode m_ver_reasonAgainst.2.2.1 158 = .ok (.if_icmp .lt 5, 3) := by decide +kernel
theorem d_ver_reasonAgainst_161 : decode m_ver_reasonAgainst.2.2.1 161 = .ok (.iconst 4, 1) := by decide +kernel
theorem d_ver_reasonAgainst_162 : decode m_ver_reasonAgainst.2.2.1 162 = .ok (.ireturn, 1) := by decide +kernel
theorem d_ver_reasonAgainst_163 : decode m_ver_reasonAgainst.2.2.1 163 = .ok (.iconst 0, 1) := by decide +kernel
theorem d_ver_reasonAgainst_164 : decode m_ver_reasonAgainst.2.2.1 164 = .ok (.ireturn, 1) := by decide +kernel
theorem d_ver_carryOut_0 : decode m_ver_carryOut.2.2.1 0 = .ok (.aload_n 1, 1) := by decide +kernel
theorem d_ver_carryOut_1 : decode m_ver_carryOut.2.2.1 1 = .ok (.getfield 86, 3) := by decide +kernel
theorem d_ver_carryOut_4 : decode m_ver_carryOut.2.2.1 4 = .ok (.iload_n 2, 1) := by decide +kernel
theorem d_ver_carryOut_5 : decode m_ver_carryOut.2.2.1 5 = .ok (.laload, 1) := by decide +kernel
theorem d_ver_carryOut_6 : decode m_ver_carryOut.2.2.1 6 = .ok (.lstore 4, 2) := by decide +kernel
theorem d_ver_carryOut_8 : decode m_ver_carryOut.2.2.1 8 = .ok (.aload_n 1, 1) := by decide +kernel
theorem d_ver_carryOut_9 : decode m_ver_carryOut.2.2.1 9 = .ok (.getfield 109, 3) := by decide +kernel
theorem d_ver_carryOut_12 : decode m_ver_carryOut.2.2.1 12 = .ok (.iload_n 2, 1) := by decide +kernel
theorem d_ver_carryOut_13 : decode m_ver_carryOut.2.2.1 13 = .ok (.iaload, 1) := by decide +kernel
theorem d_ver_carryOut_14 : decode m_ver_carryOut.2.2.1 14 = .ok (.istore 6, 2) := by decide +kernel
theorem d_ver_carryOut_16 : decode m_ver_carryOut.2.2.1 16 = .ok (.aload_n 1, 1) := by decide +kernel
theorem d_ver_carryOut_17 : decode m_ver_carryOut.2.2.1 17 = .ok (.getfield 83, 3) := by decide +kernel
theorem d_ver_carryOut_20 : decode m_ver_carryOut.2.2.1 20 = .ok (.iload_n 2, 1) := by decide +kernel
theorem d_ver_carryOut_21 : decode m_ver_carryOut.2.2.1 21 = .ok (.iaload, 1) := by decide +kernel
theorem d_ver_carryOut_22 : decode m_ver_carryOut.2.2.1 22 = .ok (.tableswitch 87 0 4 #[34, 44, 54, 63, 74], 34) := by decide +kernel
theorem d_ver_carryOut_56 : decode m_ver_carryOut.2.2.1 56 = .ok (.aload_n 0, 1) := by decide +kernel
theorem d_ver_carryOut_57 : decode m_ver_carryOut.2.2.1 57 = .ok (.lload 4, 2) := by decide +kernel
theorem d_ver_carryOut_59 : decode m_ver_carryOut.2.2.1 59 = .ok (.iload 6, 2) := by decide +kernel
theorem d_ver_carryOut_61 : decode m_ver_carryOut.2.2.1 61 = .ok (.iload_n 3, 1) := by decide +kernel
theorem d_ver_carryOut_62 : decode m_ver_carryOut.2.2.1 62 = .ok (.invokevirtual 112, 3) := by decide +kernel
theorem d_ver_carryOut_65 : decode m_ver_carryOut.2.2.1 65 = .ok (.ireturn, 1) := by decide +kernel
theorem d_ver_carryOut_66 : decode m_ver_carryOut.2.2.1 66 = .ok (.aload_n 0, 1) := by decide +kernel
theorem d_ver_carryOut_67 : decode m_ver_carryOut.2.2.1 67 = .ok (.lload 4, 2) := by decide +kernel
theorem d_ver_carryOut_69 : decode m_ver_carryOut.2.2.1 69 = .ok (.iload 6, 2) := by decide +kernel
theorem d_ver_carryOut_71 : decode m_ver_carryOut.2.2.1 71 = .ok (.iload_n 3, 1) := by decide +kernel
theorem d_ver_carryOut_72 : decode m_ver_carryOut.2.2.1 72 = .ok (.invokevirtual 116, 3) := by decide +kernel
theorem d_ver_carryOut_75 : decode m_ver_carryOut.2.2.1 75 = .ok (.ireturn, 1) := by decide +kernel
theorem d_ver_carryOut_76 : decode m_ver_carryOut.2.2.1 76 = .ok (.aload_n 0, 1) := by decide +kernel
theorem d_ver_carryOut_77 : decode m_ver_carryOut.2.2.1 77 = .ok (.lload 4, 2) := by decide +kernel
theorem d_ver_carryOut_79 : decode m_ver_carryOut.2.2.1 79 = .ok (.iload 6, 2) := by decide +kernel
theorem d_ver_carryOut_81 : decode m_ver_carryOut.2.2.1 81 = .ok (.invokevirtual 119, 3) := by decide +kernel
theorem d_ver_carryOut_84 : decode m_ver_carryOut.2.2.1 84 = .ok (.ireturn, 1) := by decide +kernel
theorem d_ver_carryOut_85 : decode m_ver_carryOut.2.2.1 85 = .ok (.aload_n 0, 1) := by decide +kernel
theorem d_ver_carryOut_86 : decode m_ver_carryOut.2.2.1 86 = .ok (.getfield 12, 3) := by decide +kernel
theorem d_ver_carryOut_89 : decode m_ver_carryOut.2.2.1 89 = .ok (.lload 4, 2) := by decide +kernel
theorem d_ver_carryOut_91 : decode m_ver_carryOut.2.2.1 91 = .ok (.invokevirtual 123, 3) := by decide +kernel
theorem d_ver_carryOut_94 : decode m_ver_carryOut.2.2.1 94 = .ok (.iconst 0, 1) := by decide +kernel
theorem d_ver_carryOut_95 : decode m_ver_carryOut.2.2.1 95 = .ok (.ireturn, 1) := by decide +kernel
theorem d_ver_carryOut_96 : decode m_ver_carryOut.2.2.1 96 = .ok (.aload_n 0, 1) := by decide +kernel
theorem d_ver_carryOut_97 : decode m_ver_carryOut.2.2.1 97 = .ok (.lload 4, 2) := by decide +kernel
theorem d_ver_carryOut_99 : decode m_ver_carryOut.2.2.1 99 = .ok (.aload_n 1, 1) := by decide +kernel
theorem d_ver_carryOut_100 : decode m_ver_carryOut.2.2.1 100 = .ok (.getfield 90, 3) := by decide +kernel
theorem d_ver_carryOut_103 : decode m_ver_carryOut.2.2.1 103 = .ok (.iload_n 2, 1) := by decide +kernel
theorem d_ver_carryOut_104 : decode m_ver_carryOut.2.2.1 104 = .ok (.laload, 1) := by decide +kernel
theorem d_ver_carryOut_105 : decode m_ver_carryOut.2.2.1 105 = .ok (.invokevirtual 127, 3) := by decide +kernel
theorem d_ver_carryOut_108 : decode m_ver_carryOut.2.2.1 108 = .ok (.ireturn, 1) := by decide +kernel
theorem d_ver_carryOut_109 : decode m_ver_carryOut.2.2.1 109 = .ok (.aload_n 0, 1) := by decide +kernel
theorem d_ver_carryOut_110 : decode m_ver_carryOut.2.2.1 110 = .ok (.getfield 12, 3) := by decide +kernel
theorem d_ver_carryOut_113 : decode m_ver_carryOut.2.2.1 113 = .ok (.lload 4, 2) := by decide +kernel
theorem d_ver_carryOut_115 : decode m_ver_carryOut.2.2.1 115 = .ok (.invokevirtual 131, 3) := by decide +kernel
theorem d_ver_carryOut_118 : decode m_ver_carryOut.2.2.1 118 = .ok (.iconst 0, 1) := by decide +kernel
theorem d_ver_carryOut_119 : decode m_ver_carryOut.2.2.1 119 = .ok (.ireturn, 1) := by decide +kernel
theorem d_ver_insertAfter_0 : decode m_ver_insertAfter.2.2.1 0 = .ok (.aload_n 0, 1) := by decide +kernel
theorem d_ver_insertAfter_1 : decode m_ver_insertAfter.2.2.1 1 = .ok (.getfield 12, 3) := by decide +kernel
theorem d_ver_insertAfter_4 : decode m_ver_insertAfter.2.2.1 4 = .ok (.lload_n 1, 1) := by decide +kernel
theorem d_ver_insertAfter_5 : decode m_ver_insertAfter.2.2.1 5 = .ok (.lconst 0, 1) := by decide +kernel
theorem d_ver_insertAfter_6 : decode m_ver_insertAfter.2.2.1 6 = .ok (.invokevirtual 134, 3) := by decide +kernel
theorem d_ver_insertAfter_9 : decode m_ver_insertAfter.2.2.1 9 = .ok (.istore 5, 2) := by decide +kernel
theorem d_ver_insertAfter_11 : decode m_ver_insertAfter.2.2.1 11 = .ok (.iload 5, 2) := by decide +kernel
theorem d_ver_insertAfter_13 : decode m_ver_insertAfter.2.2.1 13 = .ok (.ifCond .ge 5, 3) := by decide +kernel
theorem d_ver_insertAfter_16 : decode m_ver_insertAfter.2.2.1 16 = .ok (.iconst 5, 1) := by decide +kernel
theorem d_ver_insertAfter_17 : decode m_ver_insertAfter.2.2.1 17 = .ok (.ireturn, 1) := by decide +kernel
theorem d_ver_insertAfter_18 : decode m_ver_insertAfter.2.2.1 18 = .ok (.aload_n 0, 1) := by decide +kernel
theorem d_ver_insertAfter_19 : decode m_ver_insertAfter.2.2.1 19 = .ok (.getfield 12, 3) := by decide +kernel
theorem d_ver_insertAfter_22 : decode m_ver_insertAfter.2.2.1 22 = .ok (.lload_n 1, 1) := by decide +kernel
theorem d_ver_insertAfter_23 : decode m_ver_insertAfter.2.2.1 23 = .ok (.iload 5, 2) := by decide +kernel
theorem d_ver_insertAfter_25 : decode m_ver_insertAfter.2.2.1 25 = .ok (.invokestatic 137, 3) := by decide +kernel
theorem d_ver_insertAfter_28 : decode m_ver_insertAfter.2.2.1 28 = .ok (.iload_n 3, 1) := by decide +kernel
theorem d_ver_insertAfter_29 : decode m_ver_insertAfter.2.2.1 29 = .ok (.bipush (-9), 2) := by decide +kernel
theorem d_ver_insertAfter_31 : decode m_ver_insertAfter.2.2.1 31 = .ok (.iload 4, 2) := by decide +kernel
theorem d_ver_insertAfter_33 : decode m_ver_insertAfter.2.2.1 33 = .ok (.invokevirtual 141, 3) := by decide +kernel
theorem d_ver_insertAfter_36 : decode m_ver_insertAfter.2.2.1 36 = .ok (.aload_n 0, 1) := by decide +kernel
theorem d_ver_insertAfter_37 : decode m_ver_insertAfter.2.2.1 37 = .ok (.getfield 12, 3) := by decide +kernel
theorem d_ver_insertAfter_40 : decode m_ver_insertAfter.2.2.1 40 = .ok (.invokevirtual 145, 3) := by decide +kernel
theorem d_ver_insertAfter_43 : decode m_ver_insertAfter.2.2.1 43 = .ok (.iconst 0, 1) := by decide +kernel
theorem d_ver_insertAfter_44 : decode m_ver_insertAfter.2.2.1 44 = .ok (.ireturn, 1) := by decide +kernel
theorem d_ver_addChild_0 : decode m_ver_addChild.2.2.1 0 = .ok (.aload_n 0, 1) := by decide +kernel
theorem d_ver_addChild_1 : decode m_ver_addChild.2.2.1 1 = .ok (.getfield 12, 3) := by decide +kernel
theorem d_ver_addChild_4 : decode m_ver_addChild.2.2.1 4 = .ok (.lload_n 1, 1) := by decide +kernel
theorem d_ver_addChild_5 : decode m_ver_addChild.2.2.1 5 = .ok (.invokevirtual 148, 3) := by decide +kernel
theorem d_ver_addChild_8 : decode m_ver_addChild.2.2.1 8 = .ok (.istore 5, 2) := by decide +kernel
theorem d_ver_addChild_10 : decode m_ver_addChild.2.2.1 10 = .ok (.iload 5, 2) := by decide +kernel
theorem d_ver_addChild_12 : decode m_ver_addChild.2.2.1 12 = .ok (.ifCond .ge 5, 3) := by decide +kernel
theorem d_ver_addChild_15 : decode m_ver_addChild.2.2.1 15 = .ok (.iconst 5, 1) := by decide +kernel
theorem d_ver_addChild_16 : decode m_ver_addChild.2.2.1 16 = .ok (.ireturn, 1) := by decide +kernel
theorem d_ver_addChild_17 : decode m_ver_addChild.2.2.1 17 = .ok (.aload_n 0, 1) := by decide +kernel
theorem d_ver_addChild_18 : decode m_ver_addChild.2.2.1 18 = .ok (.getfield 12, 3) := by decide +kernel
theorem d_ver_addChild_21 : decode m_ver_addChild.2.2.1 21 = .ok (.lload_n 1, 1) := by decide +kernel
theorem d_ver_addChild_22 : decode m_ver_addChild.2.2.1 22 = .ok (.iload 5, 2) := by decide +kernel
theorem d_ver_addChild_24 : decode m_ver_addChild.2.2.1 24 = .ok (.invokestatic 151, 3) := by decide +kernel
theorem d_ver_addChild_27 : decode m_ver_addChild.2.2.1 27 = .ok (.iload_n 3, 1) := by decide +kernel
theorem d_ver_addChild_28 : decode m_ver_addChild.2.2.1 28 = .ok (.bipush (-9), 2) := by decide +kernel
theorem d_ver_addChild_30 : decode m_ver_addChild.2.2.1 30 = .ok (.iload 4, 2) := by decide +kernel
theorem d_ver_addChild_32 : decode m_ver_addChild.2.2.1 32 = .ok (.invokevirtual 141, 3) := by decide +kernel
theorem d_ver_addChild_35 : decode m_ver_addChild.2.2.1 35 = .ok (.aload_n 0, 1) := by decide +kernel
theorem d_ver_addChild_36 : decode m_ver_addChild.2.2.1 36 = .ok (.getfield 12, 3) := by decide +kernel
theorem d_ver_addChild_39 : decode m_ver_addChild.2.2.1 39 = .ok (.invokevirtual 145, 3) := by decide +kernel
theorem d_ver_addChild_42 : decode m_ver_addChild.2.2.1 42 = .ok (.iconst 0, 1) := by decide +kernel
theorem d_ver_addChild_43 : decode m_ver_addChild.2.2.1 43 = .ok (.ireturn, 1) := by decide +kernel
theorem d_ver_replaceText_0 : decode m_ver_replaceText.2.2.1 0 = .ok (.aload_n 0, 1) := by decide +kernel
theorem d_ver_replaceText_1 : decode m_ver_replaceText.2.2.1 1 = .ok (.getfield 12, 3) := by decide +kernel
theorem d_ver_replaceText_4 : decode m_ver_replaceText.2.2.1 4 = .ok (.lload_n 1, 1) := by decide +kernel
theorem d_ver_replaceText_5 : decode m_ver_replaceText.2.2.1 5 = .ok (.invokevirtual 93, 3) := by decide +kernel
theorem d_ver_replaceText_8 : decode m_ver_replaceText.2.2.1 8 = .ok (.istore 4, 2) := by decide +kernel
theorem d_ver_replaceText_10 : decode m_ver_replaceText.2.2.1 10 = .ok (.iload 4, 2) := by decide +kernel
theorem d_ver_replaceText_12 : decode m_ver_replaceText.2.2.1 12 = .ok (.ifCond .ge 5, 3) := by decide +kernel
theorem d_ver_replaceText_15 : decode m_ver_replaceText.2.2.1 15 = .ok (.iconst 1, 1) := by decide +kernel
theorem d_ver_replaceText_16 : decode m_ver_replaceText.2.2.1 16 = .ok (.ireturn, 1) := by decide +kernel
theorem d_ver_replaceText_17 : decode m_ver_replaceText.2.2.1 17 = .ok (.aload_n 0, 1) := by decide +kernel
theorem d_ver_replaceText_18 : decode m_ver_replaceText.2.2.1 18 = .ok (.getfield 12, 3) := by decide +kernel
theorem d_ver_replaceText_21 : decode m_ver_replaceText.2.2.1 21 = .ok (.getfield 154, 3) := by decide +kernel
theorem d_ver_replaceText_24 : decode m_ver_replaceText.2.2.1 24 = .ok (.iload 4, 2) := by decide +kernel
theorem d_ver_replaceText_26 : decode m_ver_replaceText.2.2.1 26 = .ok (.iload_n 3, 1) := by decide +kernel
theorem d_ver_replaceText_27 : decode m_ver_replaceText.2.2.1 27 = .ok (.iastore, 1) := by decide +kernel
theorem d_ver_replaceText_28 : decode m_ver_replaceText.2.2.1 28 = .ok (.iconst 0, 1) := by decide +kernel
theorem d_ver_replaceText_29 : decode m_ver_replaceText.2.2.1 29 = .ok (.ireturn, 1) := by decide +kernel
theorem d_ver_moveAfter_0 : decode m_ver_moveAfter.2.2.1 0 = .ok (.aload_n 0, 1) := by decide +kernel
theorem d_ver_moveAfter_1 : decode m_ver_moveAfter.2.2.1 1 = .ok (.getfield 12, 3) := by decide +kernel
theorem d_ver_moveAfter_4 : decode m_ver_moveAfter.2.2.1 4 = .ok (.lload_n 3, 1) := by decide +kernel
theorem d_ver_moveAfter_5 : decode m_ver_moveAfter.2.2.1 5 = .ok (.lload_n 1, 1) := by decide +kernel
theorem d_ver_moveAfter_6 : decode m_ver_moveAfter.2.2.1 6 = .ok (.invokevirtual 134, 3) := by decide +kernel
theorem d_ver_moveAfter_9 : decode m_ver_moveAfter.2.2.1 9 = .ok (.istore 5, 2) := by decide +kernel
theorem d_ver_moveAfter_11 : decode m_ver_moveAfter.2.2.1 11 = .ok (.iload 5, 2) := by decide +kernel
theorem d_ver_moveAfter_13 : decode m_ver_moveAfter.2.2.1 13 = .ok (.ifCond .ge 5, 3) := by decide +kernel
theorem d_ver_moveAfter_16 : decode m_ver_moveAfter.2.2.1 16 = .ok (.iconst 5, 1) := by decide +kernel
theorem d_ver_moveAfter_17 : decode m_ver_moveAfter.2.2.1 17 = .ok (.ireturn, 1) := by decide +kernel
theorem d_ver_moveAfter_18 : decode m_ver_moveAfter.2.2.1 18 = .ok (.aload_n 0, 1) := by decide +kernel
theorem d_ver_moveAfter_19 : decode m_ver_moveAfter.2.2.1 19 = .ok (.getfield 12, 3) := by decide +kernel
theorem d_ver_moveAfter_22 : decode m_ver_moveAfter.2.2.1 22 = .ok (.lload_n 1, 1) := by decide +kernel
theorem d_ver_moveAfter_23 : decode m_ver_moveAfter.2.2.1 23 = .ok (.lload_n 3, 1) := by decide +kernel
theorem d_ver_moveAfter_24 : decode m_ver_moveAfter.2.2.1 24 = .ok (.iload 5, 2) := by decide +kernel
theorem d_ver_moveAfter_26 : decode m_ver_moveAfter.2.2.1 26 = .ok (.invokestatic 137, 3) := by decide +kernel
theorem d_ver_moveAfter_29 : decode m_ver_moveAfter.2.2.1 29 = .ok (.invokevirtual 155, 3) := by decide +kernel
theorem d_ver_moveAfter_32 : decode m_ver_moveAfter.2.2.1 32 = .ok (.aload_n 0, 1) := by decide +kernel
theorem d_ver_moveAfter_33 : decode m_ver_moveAfter.2.2.1 33 = .ok (.getfield 12, 3) := by decide +kernel
theorem d_ver_moveAfter_36 : decode m_ver_moveAfter.2.2.1 36 = .ok (.invokevirtual 145, 3) := by decide +kernel
theorem d_ver_moveAfter_39 : decode m_ver_moveAfter.2.2.1 39 = .ok (.iconst 0, 1) := by decide +kernel
theorem d_ver_moveAfter_40 : decode m_ver_moveAfter.2.2.1 40 = .ok (.ireturn, 1) := by decide +kernel
